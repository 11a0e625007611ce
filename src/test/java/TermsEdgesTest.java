/** Each sentence of the document's "Terms" that names a bound: the last that is within it, the first that isn't. */
public final class TermsEdgesTest {
    private static final int NONE = -1, BAD = -2, FULL = -4;
    private static final int MIN = Integer.MIN_VALUE, MAX = Integer.MAX_VALUE;
    private static final int PERSON = 0, LOVER = 1, CHILD = 2, PARTED = 3, BABY = 4, DOG = 5;

    private static final Due due = new Due("TermsEdgesTest");

    public static void main(String[] args) {
        days();
        pieces();
        peopleAndKinds();
        seams();
        piecesThatAreNotThere();
        mendedTillADay();
        saysOfPersonAndLover();
        saysOfChildAndBaby();
        saysOfPartedAndDog();
        slack();
        holds();
        theRule();
        whatATextTells();
        namesAtTheirBounds();
        takesByNoMoreThanSlack();
        parts();
        called();
        calledInTurn();
        due.end();
    }

    /** "DAY (0 .. 99; 0 at first)" */
    private static void days() {
        MendedWithTheWord x = new MendedWithTheWord();
        due.is("DAY is 0 at first", x.told(0, 0), 0);
        due.is("DAY 99", x.set(0, 0, 99), 0);
        due.is("DAY 99 it is", x.told(0, 0), 99);
        due.is("DAY 100", x.set(0, 0, 100), BAD);
        due.is("DAY MAX", x.set(0, 0, MAX), BAD);
        due.is("DAY stays 99", x.told(0, 0), 99);
        due.is("DAY 0", x.set(0, 0, 0), 99);
        due.is("DAY -1", x.set(0, 0, -1), BAD);
        due.is("DAY MIN", x.set(0, 0, MIN), BAD);
        due.is("DAY stays 0", x.told(0, 0), 0);
    }

    /** "PIECES 0 .. n less 1 (n: 1 .. 8; 4 at first)" */
    private static void pieces() {
        MendedWithTheWord x = new MendedWithTheWord();
        due.is("PIECES are 4 at first", x.told(0, 1), 4);
        due.is("PIECE 3 of 4", x.part(3), 8);
        due.is("PIECE 4 of 4", x.part(4), BAD);
        due.is("8 PIECES", x.set(1, 0, 8), 4);
        due.is("PIECE 7 of 8", x.part(7), 128);
        due.is("PIECE 8 of 8", x.part(8), BAD);
        due.is("8 PIECES, none mended: PARTS", x.vase(0), 8);
        due.is("9 PIECES", x.set(1, 0, 9), BAD);
        due.is("MAX PIECES", x.set(1, 0, MAX), BAD);
        due.is("1 PIECE", x.set(1, 0, 1), 8);
        due.is("PIECE 0 of 1", x.part(0), 1);
        due.is("PIECE 1 of 1", x.part(1), BAD);
        due.is("1 PIECE: PARTS", x.vase(0), 1);
        due.is("1 PIECE is WHOLE", x.vase(1), 1);
        due.is("0 PIECES", x.set(1, 0, 0), BAD);
        due.is("-1 PIECES", x.set(1, 0, -1), BAD);
        due.is("MIN PIECES", x.set(1, 0, MIN), BAD);
        due.is("1 PIECE it stays", x.told(0, 1), 1);
    }

    /** "PEOPLE (6 at most, numbered from 0) have a KIND: 0 .. 5; a NUMBER (0 .. 9)" */
    private static void peopleAndKinds() {
        MendedWithTheWord x = new MendedWithTheWord();
        due.is("KIND of the first of none", x.told(0, 6), BAD);
        due.is("KIND -1", x.person(-1, 0), BAD);
        due.is("KIND 6", x.person(6, 0), BAD);
        due.is("KIND 7", x.person(7, 0), BAD);
        due.is("KIND MAX", x.person(MAX, 0), BAD);
        due.is("KIND MIN", x.person(MIN, 0), BAD);
        due.is("NUMBER -1", x.person(0, -1), BAD);
        due.is("NUMBER 10", x.person(0, 10), BAD);
        due.is("NUMBER 11", x.person(0, 11), BAD);
        due.is("NUMBER MAX", x.person(0, MAX), BAD);
        due.is("NUMBER MIN", x.person(0, MIN), BAD);
        due.is("nobody came", x.count(0), 0);
        due.is("KIND 0, NUMBER 0 is the first", x.person(0, 0), 0);
        due.is("KIND 5, NUMBER 9", x.person(5, 9), 1);
        due.is("KIND 0, NUMBER 9", x.person(0, 9), 2);
        due.is("KIND 5, NUMBER 0", x.person(5, 0), 3);
        due.is("a fifth", x.person(1, 1), 4);
        due.is("a sixth", x.person(2, 2), 5);
        due.is("a seventh", x.person(3, 3), FULL);
        due.is("six they are", x.count(0), 6);
        due.is("KIND of the first", x.told(0, 6), 0);
        due.is("KIND of the second", x.told(1, 6), 5);
        due.is("NUMBER of the second", x.told(1, 2), 9);
        due.is("KIND of the sixth", x.told(5, 6), 2);
        due.is("NUMBER of the sixth", x.told(5, 2), 2);
        due.is("KIND of a seventh", x.told(6, 6), BAD);
        due.is("NUMBER of a seventh", x.told(6, 2), BAD);
        due.is("NUMBER 9 by set", x.set(2, 5, 9), 2);
        due.is("NUMBER 10 by set", x.set(2, 5, 10), BAD);
        due.is("NUMBER 0 by set", x.set(2, 5, 0), 9);
        due.is("NUMBER -1 by set", x.set(2, 5, -1), BAD);
        due.is("NUMBER of a seventh by set", x.set(2, 6, 0), BAD);
        due.is("NUMBER of one ahead of the first by set", x.set(2, -1, 0), BAD);
    }

    /** "SEAMS (10 at most, numbered from 0)", "in a TONE (0 .. 99), with FORCE (0 .. 9)" */
    private static void seams() {
        MendedWithTheWord x = new MendedWithTheWord();
        x.person(PERSON, 0);
        due.is("TONE of the first of none", x.told(0, 3), BAD);
        due.is("TONE 0, FORCE 0 is the first", x.seam(1, 0, 0), 0);
        due.is("TONE 99, FORCE 9", x.seam(67, 0, 999), 1);
        due.is("TONE 99, FORCE 0", x.seam(1, 0, 990), 2);
        due.is("TONE 0, FORCE 9", x.seam(1, 0, 9), 3);
        due.is("TONE and FORCE 1000", x.seam(1, 0, 1000), BAD);
        due.is("TONE and FORCE 1001", x.seam(1, 0, 1001), BAD);
        due.is("TONE and FORCE -1", x.seam(1, 0, -1), BAD);
        due.is("TONE and FORCE MAX", x.seam(1, 0, MAX), BAD);
        due.is("TONE and FORCE MIN", x.seam(1, 0, MIN), BAD);
        due.is("four they are", x.count(1), 4);
        int[][] tonesForces = {{0, 0}, {99, 9}, {99, 0}, {0, 9}};
        for (int s = 0; s < 4; s++) {
            due.is("TONE of SEAM " + s, x.told(s, 3), tonesForces[s][0]);
            due.is("FORCE of SEAM " + s, x.told(s, 4), tonesForces[s][1]);
        }
        due.is("TONE 99 by set", x.set(3, 3, 99), 0);
        due.is("TONE 100 by set", x.set(3, 3, 100), BAD);
        due.is("TONE 0 by set", x.set(3, 3, 0), 99);
        due.is("TONE -1 by set", x.set(3, 3, -1), BAD);
        due.is("FORCE 0 by set", x.set(4, 3, 0), 9);
        due.is("FORCE -1 by set", x.set(4, 3, -1), BAD);
        due.is("FORCE 9 by set", x.set(4, 3, 9), 0);
        due.is("FORCE 10 by set", x.set(4, 3, 10), BAD);
        for (int s = 4; s < 10; s++) {
            due.is("one more SEAM", x.seam(12, 0, 10 * s), s);
        }
        due.is("an eleventh SEAM", x.seam(12, 0, 0), FULL);
        due.is("ten they are", x.count(1), 10);
        due.is("TONE of the tenth", x.told(9, 3), 9);
        due.is("TONE of an eleventh", x.told(10, 3), BAD);
        due.is("TONE of one ahead of the first", x.told(-1, 3), BAD);
        due.is("TONE of the tenth by set", x.set(3, 9, 5), 9);
        due.is("TONE of an eleventh by set", x.set(3, 10, 5), BAD);
        due.is("FORCE of an eleventh by set", x.set(4, 10, 5), BAD);
        due.is("who BROKE an eleventh by set", x.set(5, 10, 0), BAD);
    }

    /** "between two PIECES (if the PIECES aren't both there, it holds nothing for now)" */
    private static void piecesThatAreNotThere() {
        MendedWithTheWord x = new MendedWithTheWord();
        x.person(BABY, 0);
        x.seam(67, 0, 200);
        x.call(0);
        due.is("neither of its PIECES is there: PARTS", x.vase(0), 4);
        due.is("neither of its PIECES is there: COULD", x.vase(4), 4);
        due.is("neither of its PIECES is there: LAST", x.vase(5), 0);
        due.is("neither of its PIECES is there: it is MENDED till now", x.told(0, 12), 1);
        due.is("neither of its PIECES is there: so it counts", x.vase(2), 1);
        x.set(1, 0, 7);
        due.is("the greater is not there: PARTS", x.vase(0), 7);
        due.is("the greater is not there: it hangs with nothing", x.part(6), 64);
        due.is("the greater is not there: LAST", x.vase(5), 0);
        x.set(1, 0, 8);
        due.is("both are there: PARTS", x.vase(0), 7);
        due.is("both are there: they hang together", x.part(6), 192);
        due.is("both are there: they hang together", x.part(7), 192);
        due.is("both are there: LAST", x.vase(5), 1);
        x.set(1, 0, 6);
        due.is("neither is there again: PARTS", x.vase(0), 6);
        due.is("neither is there: it is MENDED", x.count(2), 1);
        due.is("neither is there: till when it is MENDED", x.told(0, 8), 0);
        due.is("neither is there: it TAKES", x.told(0, 11), 1);
    }

    /** "MENDED till a DAY, that one, too (NONE: not at all, as it comes)" */
    private static void mendedTillADay() {
        MendedWithTheWord x = byText("says 0;slacks 99;holds 5;", PERSON, 0, 0);
        due.is("not MENDED as it comes", x.told(0, 8), NONE);
        due.is("not MENDED, it doesn't hold on DAY 0", x.told(0, 12), 0);
        due.is("none is MENDED", x.count(2), 0);
        x.call(0);
        due.is("MENDED till", x.told(0, 8), 5);
        due.is("it holds on the DAY on which it is MENDED", x.told(0, 12), 1);
        x.set(0, 0, 5);
        due.is("it holds on the last DAY", x.told(0, 12), 1);
        due.is("it holds on the last DAY: how many", x.vase(2), 1);
        due.is("it holds on the last DAY: together", x.part(0), 3);
        x.set(0, 0, 6);
        due.is("it doesn't hold behind the last DAY", x.told(0, 12), 0);
        due.is("it doesn't hold behind the last DAY: how many", x.vase(2), 0);
        due.is("it doesn't hold behind the last DAY: apart", x.part(0), 1);
        due.is("it is MENDED behind the last DAY", x.count(2), 1);
        x.set(0, 0, 4);
        due.is("a DAY ahead it holds again", x.told(0, 12), 1);
        MendedWithTheWord y = byText("says 0;slacks 99;holds 0;", PERSON, 0, 0);
        y.call(0);
        due.is("HOLDS 0: till that DAY", y.told(0, 8), 0);
        due.is("HOLDS 0: it holds on that DAY", y.told(0, 12), 1);
        y.set(0, 0, 1);
        due.is("HOLDS 0: not on the next", y.told(0, 12), 0);
        MendedWithTheWord z = byText("says 0;slacks 99;holds 99;", PERSON, 0, 0);
        z.set(0, 0, 99);
        z.call(0);
        due.is("on DAY 99 with HOLDS 99", z.told(0, 8), 198);
        due.is("on DAY 99 with HOLDS 99 it holds", z.told(0, 12), 1);
        z.set(0, 0, 0);
        due.is("it holds on DAY 0 then", z.told(0, 12), 1);
    }

    /** "PERSON: v; LOVER: NUMBER more than a PERSON, if d modulo 7 is 0, else as a PERSON" */
    private static void saysOfPersonAndLover() {
        said("PERSON, 0", PERSON, 9, 7, "0", 0);
        said("PERSON, 99", PERSON, 9, 0, "99", 99);
        said("LOVER on DAY 0", LOVER, 9, 0, "50", 59);
        said("LOVER on DAY 1", LOVER, 9, 1, "50", 50);
        said("LOVER on DAY 6", LOVER, 9, 6, "50", 50);
        said("LOVER on DAY 7", LOVER, 9, 7, "50", 59);
        said("LOVER on DAY 8", LOVER, 9, 8, "50", 50);
        said("LOVER on DAY 97", LOVER, 9, 97, "50", 50);
        said("LOVER on DAY 98", LOVER, 9, 98, "50", 59);
        said("LOVER on DAY 99", LOVER, 9, 99, "50", 50);
        said("LOVER of NUMBER 0", LOVER, 0, 7, "50", 50);
        said("LOVER of NUMBER 1", LOVER, 1, 7, "50", 51);
        said("LOVER, 98", LOVER, 9, 7, "89", 98);
        said("LOVER, 99", LOVER, 9, 7, "90", 99);
        said("LOVER, 100", LOVER, 9, 7, "91", 99);
        said("LOVER, 108", LOVER, 9, 7, "99", 99);
        said("LOVER, from 0", LOVER, 9, 7, "0", 9);
    }

    /** "CHILD: d less than a PERSON"; "BABY: 0, if d is odd, else as a CHILD" */
    private static void saysOfChildAndBaby() {
        said("CHILD on DAY 0", CHILD, 9, 0, "50", 50);
        said("CHILD, 1", CHILD, 9, 49, "50", 1);
        said("CHILD, 0", CHILD, 9, 50, "50", 0);
        said("CHILD, -1", CHILD, 9, 51, "50", 0);
        said("CHILD, -99", CHILD, 9, 99, "0", 0);
        said("CHILD, 99 less 99", CHILD, 9, 99, "99", 0);
        said("CHILD, 99 less 98", CHILD, 9, 98, "99", 1);
        said("BABY on DAY 0", BABY, 9, 0, "50", 50);
        said("BABY on DAY 1", BABY, 9, 1, "50", 0);
        said("BABY on DAY 2", BABY, 9, 2, "50", 48);
        said("BABY, 0", BABY, 9, 50, "50", 0);
        said("BABY, 2", BABY, 9, 48, "50", 2);
        said("BABY, -2", BABY, 9, 52, "50", 0);
        said("BABY on DAY 97", BABY, 9, 97, "99", 0);
        said("BABY on DAY 98", BABY, 9, 98, "99", 1);
        said("BABY on DAY 99", BABY, 9, 99, "99", 0);
    }

    /** "PARTED: half (cut) of a LOVER's"; "DOG: 9 times NUMBER" */
    private static void saysOfPartedAndDog() {
        said("PARTED, half of 0", PARTED, 9, 1, "0", 0);
        said("PARTED, half of 1", PARTED, 9, 1, "1", 0);
        said("PARTED, half of 2", PARTED, 9, 1, "2", 1);
        said("PARTED, half of 3", PARTED, 9, 1, "3", 1);
        said("PARTED, half of 98", PARTED, 9, 1, "98", 49);
        said("PARTED, half of 99", PARTED, 9, 1, "99", 49);
        said("PARTED on DAY 6", PARTED, 9, 6, "50", 25);
        said("PARTED on DAY 7", PARTED, 9, 7, "50", 29);
        said("PARTED on DAY 8", PARTED, 9, 8, "50", 25);
        said("PARTED of NUMBER 0", PARTED, 0, 7, "50", 25);
        said("PARTED of NUMBER 1", PARTED, 1, 7, "50", 25);
        said("PARTED of NUMBER 2", PARTED, 2, 7, "50", 26);
        said("PARTED, a LOVER's is 99", PARTED, 9, 7, "90", 49);
        said("PARTED, a LOVER's is bound", PARTED, 9, 7, "91", 49);
        said("DOG of NUMBER 0", DOG, 0, 7, "50", 0);
        said("DOG of NUMBER 1", DOG, 1, 8, "0", 9);
        said("DOG of NUMBER 9", DOG, 9, 99, "99", 81);
    }

    /** "SLACK (by how much it may be off, slacks telling v; FORCE f): ..", "SLACK 0 .. 99, else the bound" */
    private static void slack() {
        slack("PERSON, 0", PERSON, 9, 9, "0", 0);
        slack("PERSON, 99", PERSON, 9, 9, "99", 99);
        slack("LOVER of FORCE 0", LOVER, 9, 0, "50", 50);
        slack("LOVER of FORCE 1", LOVER, 9, 1, "50", 51);
        slack("LOVER, 99", LOVER, 9, 9, "90", 99);
        slack("LOVER, 100", LOVER, 9, 9, "91", 99);
        slack("LOVER, from 0", LOVER, 9, 9, "0", 9);
        slack("CHILD of NUMBER 0", CHILD, 0, 9, "50", 50);
        slack("CHILD of NUMBER 1", CHILD, 1, 9, "50", 51);
        slack("CHILD, 99", CHILD, 9, 0, "90", 99);
        slack("CHILD, 100", CHILD, 9, 0, "91", 99);
        slack("PARTED of FORCE 0", PARTED, 9, 0, "50", 50);
        slack("PARTED of FORCE 5", PARTED, 9, 5, "50", 55);
        slack("PARTED of FORCE 6", PARTED, 9, 6, "50", 28);
        slack("PARTED of FORCE 6, cut", PARTED, 9, 6, "51", 28);
        slack("PARTED of FORCE 7", PARTED, 9, 7, "51", 29);
        slack("PARTED of FORCE 9", PARTED, 9, 9, "51", 30);
        slack("PARTED of FORCE 5, 99", PARTED, 9, 5, "94", 99);
        slack("PARTED of FORCE 5, 100", PARTED, 9, 5, "95", 99);
        slack("PARTED, a LOVER's is 99", PARTED, 9, 9, "90", 49);
        slack("PARTED, a LOVER's is bound", PARTED, 9, 9, "91", 49);
        slack("PARTED of FORCE 9, from 0", PARTED, 9, 9, "0", 4);
        slack("BABY, from 0", BABY, 0, 0, "0", 99);
        slack("BABY, from 99", BABY, 9, 9, "99", 99);
        slack("DOG of FORCE 0", DOG, 9, 0, "99", 0);
        slack("DOG of FORCE 9", DOG, 9, 9, "0", 9);
    }

    /** "HOLDS (for how many DAYS more, holds telling v): ..", "HOLDS 0 .. 99, else the bound" */
    private static void holds() {
        holds("PERSON, 0", PERSON, "0", 0);
        holds("PERSON, 99", PERSON, "99", 99);
        holds("LOVER, 0", LOVER, "0", 0);
        holds("LOVER, 2", LOVER, "1", 2);
        holds("LOVER, 98", LOVER, "49", 98);
        holds("LOVER, 100", LOVER, "50", 99);
        holds("LOVER, 198", LOVER, "99", 99);
        holds("CHILD, -1", CHILD, "0", 0);
        holds("CHILD, 0", CHILD, "1", 0);
        holds("CHILD, 1", CHILD, "2", 1);
        holds("CHILD, 98", CHILD, "99", 98);
        holds("PARTED, 0", PARTED, "0", 0);
        holds("PARTED, 98", PARTED, "49", 98);
        holds("PARTED, 100", PARTED, "50", 99);
        holds("BABY, from 0", BABY, "0", 0);
        holds("BABY, from 99", BABY, "99", 0);
        holds("DOG, 0", DOG, "0", 0);
        holds("DOG, 99", DOG, "99", 99);
    }

    /** "TEXT 0, at first THE RULE, is: says 20 + day ; slacks 3 + force ; holds 9 ;" */
    private static void theRule() {
        MendedWithTheWord x = new MendedWithTheWord();
        x.person(PERSON, 5);
        x.seam(1, 0, 200);
        due.is("TEXT 0 is THE RULE", x.count(5), 0);
        due.is("THE RULE SAYS on DAY 0", x.told(0, 9), 20);
        due.is("THE RULE slacks at FORCE 0", x.told(0, 10), 3);
        x.set(4, 0, 9);
        due.is("THE RULE slacks at FORCE 9", x.told(0, 10), 12);
        x.call(0);
        due.is("THE RULE holds", x.told(0, 8), 9);
        x.set(0, 0, 78);
        due.is("THE RULE SAYS on DAY 78", x.told(0, 9), 98);
        x.set(0, 0, 79);
        due.is("THE RULE SAYS on DAY 79", x.told(0, 9), 99);
        x.set(0, 0, 80);
        due.is("THE RULE SAYS on DAY 80", x.told(0, 9), 99);
        x.set(0, 0, 99);
        due.is("THE RULE SAYS on DAY 99", x.told(0, 9), 99);
    }

    /** "says, slacks, holds (0 .. 99, else the bound)": ahead of what the KINDS make of it */
    private static void whatATextTells() {
        said("a text, -1", PERSON, 0, 0, "-1", 0);
        said("a text, 100", PERSON, 0, 0, "100", 99);
        said("a text, 9999", PERSON, 0, 0, "9999", 99);
        said("a text, -9999", PERSON, 0, 0, "-9999", 0);
        said("a LOVER's text, -1", LOVER, 9, 7, "-1", 9);
        said("a CHILD's text, 100", CHILD, 0, 1, "100", 98);
        said("a PARTED's text, 100", PARTED, 0, 1, "100", 49);
        said("a BABY's text, 100", BABY, 0, 2, "100", 97);
        slack("a text, -1", PERSON, 0, 0, "-1", 0);
        slack("a text, 100", PERSON, 0, 0, "100", 99);
        slack("a LOVER's text, -1", LOVER, 0, 9, "-1", 9);
        slack("a CHILD's text, -1", CHILD, 9, 0, "-1", 9);
        slack("a PARTED's text, -1", PARTED, 0, 9, "-1", 4);
        slack("a PARTED's text, 100", PARTED, 0, 6, "100", 49);
        holds("a text, -1", PERSON, "-1", 0);
        holds("a text, 100", PERSON, "100", 99);
        holds("a CHILD's text, 100", CHILD, "100", 98);
        holds("a LOVER's text, -1", LOVER, "-1", 0);
    }

    /** "tone: its TONE; day: DAY; number: NUMBER; force: FORCE; mended: how many SEAMS are MENDED; seam: its number" */
    private static void namesAtTheirBounds() {
        MendedWithTheWord x = byText("says tone;slacks day;holds number;", DOG, 0, 0);
        due.is("no FAULT", Due.text(x, "says number;slacks force;holds seam;"), 2);
        due.is("no FAULT", Due.text(x, "says mended;slacks seam;holds mended;"), 3);
        x.person(PERSON, 9);
        for (int s = 1; s < 10; s++) {
            x.seam(1, 1, s);
        }
        due.is("tone 0", x.told(1, 9), 0);
        x.set(3, 1, 99);
        due.is("tone 99", x.told(1, 9), 99);
        due.is("tone of its own", x.told(2, 9), 0);
        due.is("day 0", x.told(1, 10), 0);
        x.set(0, 0, 99);
        due.is("day 99", x.told(1, 10), 99);
        x.set(0, 0, 0);
        x.force(2);
        due.is("number 9", x.told(1, 9), 9);
        x.set(2, 1, 0);
        due.is("number 0", x.told(1, 9), 0);
        due.is("force 9", x.told(9, 10), 9);
        due.is("force 1", x.told(1, 10), 1);
        x.set(4, 1, 0);
        due.is("force 0", x.told(1, 10), 0);
        x.force(3);
        due.is("seam 9", x.told(9, 10), 9);
        due.is("seam 1", x.told(1, 10), 1);
        due.is("mended 0", x.told(1, 9), 0);
        x.set(3, 0, 0);
        due.is("one is MENDED", x.call(0), 1);
        due.is("mended 1", x.told(1, 9), 1);
        for (int s = 1; s < 10; s++) {
            x.set(3, s, s);
        }
        due.is("nine more are MENDED", x.call(1), 9);
        due.is("mended 10", x.told(1, 9), 10);
        x.set(0, 0, 99);
        due.is("mended 10, though none holds", x.told(1, 9), 10);
        due.is("none holds", x.vase(2), 0);
    }

    /** "in a TONE that is off from its own by no more than SLACK" */
    private static void takesByNoMoreThanSlack() {
        MendedWithTheWord x = byText("says 50;slacks 5;holds 0;", PERSON, 0, 0);
        int[][] tonesTake = {{44, 0}, {45, 1}, {46, 1}, {50, 1}, {54, 1}, {55, 1}, {56, 0}, {0, 0}, {99, 0}};
        for (int[] t : tonesTake) {
            x.set(3, 0, t[0]);
            due.is("SAYS 50, SLACK 5, TONE " + t[0], x.told(0, 11), t[1]);
            due.is("SAYS 50, SLACK 5, TONE " + t[0] + ", how many", x.vase(3), t[1]);
        }
        MendedWithTheWord y = byText("says 50;slacks 0;holds 0;", PERSON, 0, 0);
        y.set(3, 0, 49);
        due.is("SLACK 0, 1 below", y.told(0, 11), 0);
        y.set(3, 0, 50);
        due.is("SLACK 0, not off", y.told(0, 11), 1);
        y.set(3, 0, 51);
        due.is("SLACK 0, 1 above", y.told(0, 11), 0);
        MendedWithTheWord z = byText("says 0;slacks 98;holds 0;", PERSON, 0, 0);
        z.set(3, 0, 98);
        due.is("SLACK 98, off by 98", z.told(0, 11), 1);
        z.set(3, 0, 99);
        due.is("SLACK 98, off by 99", z.told(0, 11), 0);
        MendedWithTheWord b = byText("says 99;slacks 0;holds 0;", BABY, 0, 0);
        due.is("SLACK 99, off by 99", b.told(0, 11), 1);
    }

    /** "PIECES that hang together by SEAMS that hold now, also by others between, are one. WHOLE: one PART." */
    private static void parts() {
        MendedWithTheWord x = byText("says 0;slacks 99;holds 0;", BABY, 0, 0);
        x.set(1, 0, 8);
        x.set(3, 0, 0);
        int[] twos = {67, 56, 45, 34, 23, 12};
        for (int two : twos) {
            x.seam(two, 0, 0);
        }
        due.is("eight PIECES, none called", x.vase(0), 8);
        due.is("eight PIECES, none called: COULD", x.vase(4), 1);
        x.call(0);
        due.is("eight PIECES in a row", x.vase(0), 1);
        due.is("eight PIECES in a row are WHOLE", x.vase(1), 1);
        due.is("the first of a row", x.part(0), 255);
        due.is("the last of a row", x.part(7), 255);
        due.is("each of a row is LAST", x.vase(5), 127);
        x.set(1, 0, 2);
        due.is("two PIECES", x.vase(0), 1);
        due.is("two PIECES: LAST", x.vase(5), 1);
        MendedWithTheWord y = new MendedWithTheWord();
        y.set(1, 0, 8);
        y.person(BABY, 0);
        for (int two : new int[] {7, 17, 27, 37, 47, 57, 67, 1, 12, 23}) {
            y.seam(two, 0, 0);
        }
        y.call(0);
        due.is("ten SEAMS hold", y.vase(2), 10);
        due.is("ten SEAMS TAKE", y.vase(3), 10);
        due.is("of ten SEAMS three are LAST", y.vase(5), 16 + 32 + 64);
        due.is("by one between", y.part(5), 255);
    }

    /** "each SEAM that one BROKE, by numbers, that TAKES and doesn't hold now, is MENDED till DAY and HOLDS, together" */
    private static void called() {
        MendedWithTheWord x = byText("says 10;slacks 2;holds 3;", PERSON, 0, 0);
        x.person(PERSON, 0);
        due.is("one who BROKE none", x.call(1), 0);
        x.set(3, 0, 13);
        due.is("off by more than SLACK", x.call(0), 0);
        due.is("not MENDED", x.told(0, 8), NONE);
        x.set(3, 0, 12);
        due.is("off by SLACK", x.call(0), 1);
        due.is("till DAY and HOLDS", x.told(0, 8), 3);
        x.set(0, 0, 3);
        due.is("it holds yet", x.call(0), 0);
        due.is("till as before", x.told(0, 8), 3);
        x.set(0, 0, 4);
        due.is("it holds no more", x.call(0), 1);
        due.is("till anew", x.told(0, 8), 7);
        x.set(0, 0, 0);
        due.is("it holds on a DAY ahead", x.call(0), 0);
        x.set(0, 0, 99);
        due.is("on DAY 99", x.call(0), 1);
        due.is("till behind DAY 99", x.told(0, 8), 102);
        x.set(3, 0, 99);
        due.is("what TAKES no more holds on", x.told(0, 12), 1);
        MendedWithTheWord y = new MendedWithTheWord();
        y.person(BABY, 0);
        for (int s = 0; s < 10; s++) {
            y.seam(67, 0, 0);
        }
        due.is("ten at once", y.call(0), 10);
        due.is("none of ten again", y.call(0), 0);
        y.set(0, 0, 1);
        due.is("ten on the next DAY", y.call(0), 10);
        due.is("ten are MENDED", y.count(2), 10);
    }

    /** "by numbers", "(all told as it is then)" */
    private static void calledInTurn() {
        MendedWithTheWord x = byText("says mended;slacks 0;holds mended + 1;", PERSON, 0, 0);
        x.set(3, 0, 0);
        x.seam(12, 0, 10);
        x.seam(23, 0, 20);
        x.seam(13, 0, 20);
        due.is("each TAKES when its turn comes", x.call(0), 3);
        due.is("HOLDS of the first is told ahead of its mending", x.told(0, 8), 1);
        due.is("HOLDS of the second", x.told(1, 8), 2);
        due.is("HOLDS of the third", x.told(2, 8), 3);
        due.is("a fourth TAKES no more", x.told(3, 8), NONE);
        MendedWithTheWord y = byText("says mended;slacks 0;holds 0;", PERSON, 0, 0);
        y.set(3, 0, 1);
        y.seam(12, 0, 0);
        due.is("the first isn't asked again", y.call(0), 1);
        due.is("the first is not MENDED", y.told(0, 8), NONE);
        due.is("called again it is", y.call(0), 1);
    }

    /** One person of a KIND, one SEAM between PIECES 0 and 1 of TONE 99, TEXT 1 as THE RULE. */
    private static MendedWithTheWord byText(String text, int kind, int number, int force) {
        MendedWithTheWord x = new MendedWithTheWord();
        due.is("no FAULT in " + text, Due.text(x, text), 1);
        x.force(1);
        x.person(kind, number);
        x.seam(1, 0, 990 + force);
        return x;
    }

    private static void said(String what, int kind, int number, int day, String e, int want) {
        MendedWithTheWord x = byText("says " + e + ";slacks 0;holds 0;", kind, number, 0);
        x.set(0, 0, day);
        due.is("SAYS of " + what, x.told(0, 9), want);
    }

    private static void slack(String what, int kind, int number, int force, String e, int want) {
        MendedWithTheWord x = byText("says 0;slacks " + e + ";holds 0;", kind, number, force);
        due.is("SLACK of " + what, x.told(0, 10), want);
    }

    private static void holds(String what, int kind, String e, int want) {
        MendedWithTheWord x = byText("says 0;slacks 99;holds " + e + ";", kind, 0, 9);
        x.set(3, 0, 0);
        x.set(0, 0, 2);
        due.is("HOLDS of " + what + ": it TAKES", x.call(0), 1);
        due.is("HOLDS of " + what, x.told(0, 8), 2 + want);
    }
}
