import java.util.List;

/** Each promise by what it says: ordinary calls, its edges, its refusals. Each promise's tests stand in one method. */
public final class PromisesTest {
    private static final int NONE = -1, BAD = -2, STATE = -3, FULL = -4;
    private static final int NOTHING = -11, OUTSIDE = -12, OTHER_SORT = -13, BELOW_ZERO = -14;
    private static final int MIN = Integer.MIN_VALUE, MAX = Integer.MAX_VALUE;
    private static final int PERSON = 0, LOVER = 1, CHILD = 2, PARTED = 3, BABY = 4, DOG = 5;

    private static final Due due = new Due("PromisesTest");

    public static void main(String[] args) {
        constants();
        newObject();
        set();
        person();
        seam();
        told();
        saysByKind();
        slackByKind();
        holdsByKind();
        feed();
        text();
        faults();
        openAtOnce();
        values();
        names();
        force();
        call();
        callInTurn();
        vase();
        part();
        when();
        fewest();
        wanted();
        soon();
        gentler();
        tells();
        film();
        drawn();
        chance();
        imageAndBack();
        count();
        sheet();
        cell();
        copy();
        people();
        taken();
        refusalsChangeNothing();
        due.end();
    }

    private static void constants() {
        due.is("NONE", MendedWithTheWord.NONE, -1);
        due.is("BAD", MendedWithTheWord.BAD, -2);
        due.is("STATE", MendedWithTheWord.STATE, -3);
        due.is("FULL", MendedWithTheWord.FULL, -4);
        due.is("NO", MendedWithTheWord.NO, -4611686018427387904L);
    }

    // Promise 1

    private static void newObject() {
        MendedWithTheWord x = new MendedWithTheWord();
        int[] counts = {0, 0, 0, 1, 0, 0};
        for (int what = 0; what < 6; what++) {
            due.is("new: count " + what, x.count(what), counts[what]);
        }
        due.is("new: DAY", x.told(0, 0), 0);
        due.is("new: PIECES", x.told(0, 1), 4);
        due.is("new: PARTS", x.vase(0), 4);
        for (int sheet = 0; sheet < 4; sheet++) {
            due.is("new: sheet " + sheet, x.cell(sheet, 0, 0), NOTHING);
        }
        due.is("new: no image", x.back(), STATE);
        MendedWithTheWord other = new MendedWithTheWord();
        x.person(PERSON, 1);
        x.sheet(0, 0, 1);
        due.is("new: objects share no people", other.count(0), 0);
        due.is("new: objects share no sheets", other.cell(0, 0, 0), NOTHING);
    }

    // Promise 2

    private static void set() {
        MendedWithTheWord x = twoPeopleOneSeam();
        due.is("set DAY", x.set(0, -77, 99), 0);
        due.is("set DAY", x.set(0, 77, 0), 99);
        due.is("set PIECES", x.set(1, MIN, 8), 4);
        due.is("set PIECES", x.set(1, MAX, 1), 8);
        due.is("set NUMBER", x.set(2, 1, 9), 7);
        due.is("set NUMBER", x.set(2, 1, 0), 9);
        due.is("set NUMBER of the other", x.told(0, 2), 3);
        due.is("set TONE", x.set(3, 0, 99), 25);
        due.is("set TONE", x.set(3, 0, 0), 99);
        due.is("set FORCE", x.set(4, 0, 9), 6);
        due.is("set FORCE", x.set(4, 0, 0), 9);
        due.is("set who BROKE", x.set(5, 0, 1), 0);
        due.is("set who BROKE", x.set(5, 0, 0), 1);
        int[][] bad = {{-1, 0, 0}, {6, 0, 0}, {MIN, 0, 0}, {MAX, 0, 0}, {0, 0, -1}, {0, 0, 100}, {1, 0, 0}, {1, 0, 9},
            {2, -1, 0}, {2, 2, 0}, {2, 0, -1}, {2, 0, 10}, {3, -1, 0}, {3, 1, 0}, {3, 0, -1}, {3, 0, 100},
            {4, -1, 0}, {4, 1, 0}, {4, 0, -1}, {4, 0, 10}, {5, -1, 0}, {5, 1, 0}, {5, 0, -1}, {5, 0, 2},
            {0, 0, MIN}, {1, 0, MAX}, {2, MAX, 0}, {3, MIN, 0}, {5, 0, MAX}};
        List<Integer> before = Due.state(x);
        for (int[] b : bad) {
            due.is("set BAD " + b[0] + " " + b[1] + " " + b[2], x.set(b[0], b[1], b[2]), BAD);
        }
        due.same("set BAD: state", Due.state(x), before);
    }

    // Promise 3

    private static void person() {
        MendedWithTheWord x = new MendedWithTheWord();
        for (int kind = 0; kind < 6; kind++) {
            due.is("person BAD kind", x.person(-1, 0), BAD);
            due.is("person", x.person(kind, 9 - kind), kind);
            due.is("person: KIND", x.told(kind, 6), kind);
            due.is("person: NUMBER", x.told(kind, 2), 9 - kind);
        }
        due.is("person FULL", x.person(0, 0), FULL);
        due.is("person BAD ahead of FULL", x.person(6, 0), BAD);
        due.is("person BAD ahead of FULL", x.person(0, 10), BAD);
        due.is("person BAD", x.person(0, -1), BAD);
        due.is("person BAD", x.person(MIN, MAX), BAD);
        due.is("person: as many as before", x.count(0), 6);
    }

    // Promise 4

    private static void seam() {
        MendedWithTheWord x = new MendedWithTheWord();
        due.is("seam: nobody to break it", x.seam(1, 0, 0), BAD);
        x.person(PERSON, 0);
        int[] bad = {0, 10, 11, 77, 76, 8, 78, 80, -1, 100, MIN, MAX};
        for (int two : bad) {
            due.is("seam BAD two " + two, x.seam(two, 0, 0), BAD);
        }
        due.is("seam BAD one", x.seam(1, -1, 0), BAD);
        due.is("seam BAD one", x.seam(1, 1, 0), BAD);
        due.is("seam BAD tone", x.seam(1, 0, -1), BAD);
        due.is("seam BAD tone", x.seam(1, 0, 1000), BAD);
        due.is("seam: none came", x.count(1), 0);
        due.is("seam", x.seam(67, 0, 999), 0);
        due.is("seam: TONE", x.told(0, 3), 99);
        due.is("seam: FORCE", x.told(0, 4), 9);
        due.is("seam: who BROKE", x.told(0, 5), 0);
        due.is("seam: PIECES", x.told(0, 7), 67);
        due.is("seam: not MENDED", x.told(0, 8), NONE);
        due.is("seam", x.seam(7, 0, 123), 1);
        due.is("seam: PIECES", x.told(1, 7), 7);
        due.is("seam: TONE", x.told(1, 3), 12);
        due.is("seam: FORCE", x.told(1, 4), 3);
        for (int s = 2; s < 10; s++) {
            due.is("seam", x.seam(12, 0, 0), s);
        }
        due.is("seam FULL", x.seam(12, 0, 0), FULL);
        due.is("seam BAD ahead of FULL", x.seam(21, 0, 0), BAD);
        due.is("seam BAD ahead of FULL", x.seam(12, 1, 0), BAD);
        due.is("seam: as many as before", x.count(1), 10);
    }

    // Promise 5

    private static void told() {
        MendedWithTheWord x = twoPeopleOneSeam();
        x.set(0, 0, 5);
        int[] of0 = {5, 4, 3, 25, 6, 0, PERSON, 12, NONE, 25, 9, 1, 0};
        for (int what = 0; what < 13; what++) {
            due.is("told " + what, x.told(0, what), of0[what]);
        }
        due.is("told DAY of nothing", x.told(MIN, 0), 5);
        due.is("told PIECES of nothing", x.told(MAX, 1), 4);
        due.is("told NUMBER of another", x.told(1, 2), 7);
        due.is("told KIND of another", x.told(1, 6), LOVER);
        x.call(0);
        due.is("told till", x.told(0, 8), 14);
        due.is("told: it holds", x.told(0, 12), 1);
        x.set(0, 0, 14);
        due.is("told: it holds on its last DAY", x.told(0, 12), 1);
        x.set(0, 0, 15);
        due.is("told: it holds no more", x.told(0, 12), 0);
        due.is("told: till stays", x.told(0, 8), 14);
        x.set(3, 0, 44);
        due.is("told: 9 off, SLACK 9: it TAKES", x.told(0, 11), 1);
        x.set(3, 0, 45);
        due.is("told: 10 off, SLACK 9", x.told(0, 11), 0);
        x.set(3, 0, 26);
        due.is("told: 9 off below", x.told(0, 11), 1);
        x.set(3, 0, 25);
        due.is("told: 10 off below", x.told(0, 11), 0);
        for (int what = 2; what < 13; what++) {
            int first = what == 2 || what == 6 ? 2 : 1;
            due.is("told BAD of " + first + " what " + what, x.told(first, what), BAD);
            due.is("told BAD of -1 what " + what, x.told(-1, what), BAD);
            due.is("told BAD of MIN what " + what, x.told(MIN, what), BAD);
        }
        due.is("told BAD what", x.told(0, -1), BAD);
        due.is("told BAD what", x.told(0, 13), BAD);
        due.is("told BAD what", x.told(0, MAX), BAD);
    }

    private static void saysByKind() {
        due.is("PERSON SAYS", said(PERSON, 9, 7, "50"), 50);
        due.is("LOVER SAYS on a seventh DAY", said(LOVER, 9, 7, "50"), 59);
        due.is("LOVER SAYS on DAY 0", said(LOVER, 9, 0, "50"), 59);
        due.is("LOVER SAYS else", said(LOVER, 9, 8, "50"), 50);
        due.is("LOVER SAYS 99 at most", said(LOVER, 9, 14, "95"), 99);
        due.is("CHILD SAYS", said(CHILD, 9, 8, "50"), 42);
        due.is("CHILD SAYS 0 at least", said(CHILD, 9, 51, "50"), 0);
        due.is("PARTED SAYS", said(PARTED, 9, 7, "50"), 29);
        due.is("PARTED SAYS else", said(PARTED, 9, 8, "51"), 25);
        due.is("PARTED SAYS half of what a LOVER SAYS, 99", said(PARTED, 9, 7, "99"), 49);
        due.is("BABY SAYS on an odd DAY", said(BABY, 9, 9, "50"), 0);
        due.is("BABY SAYS on an even DAY", said(BABY, 9, 8, "50"), 42);
        due.is("BABY SAYS 0 at least", said(BABY, 9, 52, "50"), 0);
        due.is("DOG SAYS", said(DOG, 9, 7, "50"), 81);
        due.is("DOG SAYS", said(DOG, 0, 7, "50"), 0);
        due.is("a text tells 99 at most", said(PERSON, 0, 0, "100"), 99);
        due.is("a text tells 0 at least", said(PERSON, 0, 0, "-1"), 0);
        due.is("the text is bound ahead of the KIND", said(CHILD, 0, 9, "9999"), 90);
        due.is("the text is bound ahead of the KIND", said(LOVER, 9, 0, "-9"), 9);
    }

    private static void slackByKind() {
        due.is("PERSON SLACK", slack(PERSON, 8, 5, "50"), 50);
        due.is("LOVER SLACK", slack(LOVER, 8, 5, "50"), 55);
        due.is("LOVER SLACK 99 at most", slack(LOVER, 8, 5, "96"), 99);
        due.is("CHILD SLACK", slack(CHILD, 8, 5, "50"), 58);
        due.is("CHILD SLACK 99 at most", slack(CHILD, 8, 5, "92"), 99);
        due.is("PARTED SLACK, FORCE 5", slack(PARTED, 8, 5, "50"), 55);
        due.is("PARTED SLACK, FORCE 6", slack(PARTED, 8, 6, "51"), 28);
        due.is("PARTED SLACK half of a LOVER's, 99", slack(PARTED, 8, 9, "99"), 49);
        due.is("BABY SLACK", slack(BABY, 8, 5, "50"), 99);
        due.is("DOG SLACK", slack(DOG, 8, 5, "50"), 5);
    }

    private static void holdsByKind() {
        due.is("PERSON HOLDS", holds(PERSON, "30"), 30);
        due.is("LOVER HOLDS", holds(LOVER, "30"), 60);
        due.is("LOVER HOLDS 99 at most", holds(LOVER, "50"), 99);
        due.is("CHILD HOLDS", holds(CHILD, "30"), 29);
        due.is("CHILD HOLDS 0 at least", holds(CHILD, "0"), 0);
        due.is("PARTED HOLDS", holds(PARTED, "30"), 60);
        due.is("BABY HOLDS", holds(BABY, "30"), 0);
        due.is("DOG HOLDS", holds(DOG, "30"), 30);
    }

    // Promise 6

    private static void feed() {
        MendedWithTheWord x = new MendedWithTheWord();
        due.is("feed BAD", x.feed(-1), BAD);
        due.is("feed BAD", x.feed(256), BAD);
        due.is("feed BAD", x.feed(MIN), BAD);
        for (int i = 1; i <= 160; i++) {
            due.is("feed", x.feed(i % 2 * 255), i);
        }
        due.is("feed FULL", x.feed(32), FULL);
        due.is("feed BAD ahead of FULL", x.feed(256), BAD);
        due.is("feed: as many as before", x.count(4), 160);
    }

    // Promise 7

    private static void text() {
        MendedWithTheWord x = new MendedWithTheWord();
        for (int t = 1; t < 6; t++) {
            due.is("text", Due.text(x, "says " + t + ";slacks 0;holds 0;"), t);
            due.is("text: TAPE is empty", x.count(4), 0);
            due.is("text: TEXTS", x.count(3), t + 1);
            due.is("text: no RULE by itself", x.count(5), 0);
        }
        Due.feed(x, "says");
        due.is("text FULL, ahead of a FAULT", x.text(), FULL);
        due.is("text FULL: TAPE stays", x.count(4), 4);
        MendedWithTheWord y = new MendedWithTheWord();
        due.is("text FAULT", Due.text(y, "says 1;slacks 2;"), -116);
        due.is("text FAULT: TAPE is empty", y.count(4), 0);
        due.is("text FAULT: no TEXT came", y.count(3), 1);
        StringBuilder long160 = new StringBuilder("says 1;slacks 2;holds 3");
        while (long160.length() < 158) {
            long160.append("+1");
        }
        while (long160.length() < 159) {
            long160.append(" ");
        }
        due.is("text of 160 bytes", Due.text(y, long160 + ";"), 1);
        y.force(1);
        y.person(PERSON, 0);
        y.seam(1, 0, 10);
        due.is("text of 160 bytes: SAYS", y.told(0, 9), 1);
        y.call(0);
        due.is("text of 160 bytes: HOLDS", y.told(0, 8), 3 + (long160.length() - 23) / 2);
    }

    private static void faults() {
        fault("", 0);
        fault("   ", 3);
        fault("says", 4);
        fault("says ", 5);
        fault("says ;", 5);
        fault("slacks 1;", 0);
        fault("says 1 slacks", 7);
        fault("says 1; says 2;", 8);
        fault("says 1;slacks 2;holds 3;;", 24);
        fault("says 1;slacks 2;holds 3; x", 25);
        fault("says 1;slacks 2;holds 3", 23);
        fault("says 1;slacks 2;holds 3; \n", NONE);
        fault(" \nsays1;slacks2;holds3;", NONE);
        fault("says\t1;", 4);
        fault("says 1\r;", 6);
        fault("says 1 > 2;", 7);
        fault("says \u00e9;", 5);
        fault("says Tone;", 5);
        fault("says tones;", 5);
        fault("says ton;", 5);
        fault("says saysay;", 5);
        fault("saysone;", 0);
        fault("says one;", 5);
        fault("says xone;", 5);
        fault("says dayz;", 5);
        fault("says zday;", 5);
        fault("says 12345;", 5);
        fault("says 00000;", 5);
        fault("says 0000;", 10);
        fault("says 1+99999999999999999999;", 7);
        fault("says 9999 1;", 10);
        fault("says 1 2;", 7);
        fault("says 1 day;", 7);
        fault("says day tone;", 9);
        fault("says 1 + ;", 9);
        fault("says + 1;", 5);
        fault("says 1 * * 2;", 9);
        fault("says 1 < 2 < 3;", 11);
        fault("says 1 = 2 = 3;", 11);
        fault("says 1 = 2 < 3;", 11);
        fault("says (1 < 2) < 3;", 17);
        fault("says 1 < ;", 9);
        fault("says 1 or;", 9);
        fault("says or 1;", 5);
        fault("says 1 and and 2;", 11);
        fault("says 1 or or 2;", 10);
        fault("says 1 + not 2;", 9);
        fault("says 1 < not 2;", 9);
        fault("says - not 2;", 7);
        fault("says not;", 8);
        fault("says not not 1 and not 0;", 25);
        fault("says ();", 6);
        fault("says (1;", 7);
        fault("says (1", 7);
        fault("says 1);", 6);
        fault("says )1;", 5);
        fault("says says;", 5);
        fault("says holds;", 5);
        fault("says 1;slacks 2;slacks 3;", 16);
        fault("says 1day;", 6);
        fault("says 1-1;slacks--1;holds not-1;", NONE);
    }

    private static void openAtOnce() {
        MendedWithTheWord x = new MendedWithTheWord();
        due.is("text FAULT with 5 open", Due.text(x, "says not-((-"), -112);
        due.is("text behind it", Due.text(x, "says (((((1)))));slacks 1;holds 1;"), 1);
        due.is("text FAULT", Due.text(x, "says day day"), -109);
        due.is("text FAULT: nothing of the last TAPE is left", Due.text(x, "says da"), -105);
        due.is("text FAULT: nothing of the last TAPE is left", Due.text(x, "says 123456"), -105);
        due.is("text FAULT: nothing of the last TAPE is left", Due.text(x, "says 123"), -108);
        fault("says (((((1)))));slacks 1;holds 1;", NONE);
        fault("says ((((((1))))));", 10);
        fault("says -----1;slacks 1;holds 1;", NONE);
        fault("says ------1;", 10);
        fault("says not not not not not 1;slacks 1;holds 1;", NONE);
        fault("says not not not not not not 1;", 25);
        fault("says not(-(-1));slacks 1;holds 1;", NONE);
        fault("says not(-(--1));", 12);
        fault("says not(-(-(1)));", 12);
        fault("says not(not(not 1));slacks 1;holds 1;", NONE);
        fault("says not(not(not not 1));", 17);
        fault("says not(not(not 1 and -1));slacks 1;holds 1;", NONE);
        fault("says not(not(not 1 < -1));", 21);
        fault("says not(not(not(1)));", 16);
        fault("says (((((1+2-3*day)))));slacks 1;holds 1;", NONE);
        fault("says (((((-1)))));", 10);
        fault("says (((((1-1)))));slacks 1;holds 1;", NONE);
        fault("says (((((1--1)))));", 12);
        fault("says not not not not not 1 and not not not not not 1;slacks 1;holds 1;", NONE);
        fault("says not not not not (1) or (((((1)))));slacks 1;holds 1;", NONE);
        fault("says not not not not not 1 < (2);", 29);
        fault("says not not not not not 1 + (2);", 29);
        fault("says not not not not not 1 and (2);slacks 1;holds 1;", NONE);
        fault("says -----1 * -----1 - -----1;slacks 1;holds 1;", NONE);
        fault("says ----(1 * (1));", 14);
        fault("says (((((1))))) + (((((1)))));slacks (((((1)))));holds (((((1)))));", NONE);
    }

    private static void values() {
        value("1 + 2 * 3", 7);
        value("(1 + 2) * 3", 9);
        value("10 - 3 - 2", 5);
        value("10 - (3 - 2)", 9);
        value("2 * 3 * 4", 24);
        value("10 - 2 * 3 + 1", 5);
        value("-2 + 5", 3);
        value("- (2 - 7)", 5);
        value("--7", 7);
        value("3 * - - 2", 6);
        value("7 or 0", 1);
        value("0 or 7", 1);
        value("0 or 0", 0);
        value("7 and 9", 1);
        value("7 and 0", 0);
        value("0 and 7", 0);
        value("-1 and -1", 1);
        value("1 or 1 and 0", 1);
        value("(1 or 1) and 0", 0);
        value("not 0", 1);
        value("not 7", 0);
        value("not not 7", 1);
        value("not 1 or 1", 1);
        value("not 0 and 0", 0);
        value("not 1 = 2", 1);
        value("(not 1) = 2", 0);
        value("not 2 < 1", 1);
        value("1 < 2", 1);
        value("2 < 2", 0);
        value("-3 < 2", 1);
        value("2 = 2", 1);
        value("2 = 3", 0);
        value("1 + 1 = 2 * 1", 1);
        value("2 + (1 = 1) * 7", 9);
        value("9999", 99);
        value("0007", 7);
        value("9999 * 9999 * 9999 * 9999 < 0", 9999 * 9999 * 9999 * 9999 < 0 ? 1 : 0);
        value("9999 * 9999 * 43 < 0", 9999 * 9999 * 43 < 0 ? 1 : 0);
        value("9999 * 9999 * 22 < 0", 9999 * 9999 * 22 < 0 ? 1 : 0);
        value("1 < 2 and 2 < 3 or 0", 1);
        value("0 or 0 and (0 < 0 + 0 * (0 or 0 and (0 < 0 + 0 * (0 or 0 and 0 < 0 + 0 * (1 + 1)))))", 0);
        // As much as can wait: five ( , ahead of each and behind the last or, and, <, +, * .
        String waits = "0or 1and 0<1+1*";
        value((waits + "(").repeat(5) + waits + "1" + ")".repeat(5), 1);
    }

    private static void names() {
        MendedWithTheWord x = new MendedWithTheWord();
        Due.text(x, "says tone;slacks day;holds number;");
        Due.text(x, "says force;slacks mended;holds seam;");
        x.person(PERSON, 0);
        x.person(PERSON, 6);
        x.seam(1, 0, 0);
        x.seam(12, 0, 0);
        x.seam(23, 1, 734);
        x.set(0, 0, 31);
        x.force(1);
        due.is("tone", x.told(2, 9), 73);
        due.is("day", x.told(2, 10), 31);
        x.call(1);
        due.is("number", x.told(2, 8), 37);
        x.set(0, 0, 38);
        x.force(2);
        x.set(3, 2, 4);
        due.is("force", x.told(2, 9), 4);
        due.is("mended, though it holds no more", x.told(2, 10), 1);
        x.call(1);
        due.is("seam", x.told(2, 8), 40);
        x.set(4, 0, 0);
        x.call(0);
        due.is("mended more", x.told(2, 10), 3);
    }

    // Promise 8

    private static void force() {
        MendedWithTheWord x = new MendedWithTheWord();
        x.person(PERSON, 0);
        x.seam(1, 0, 0);
        due.is("force BAD", x.force(1), BAD);
        Due.text(x, "says 5;slacks 0;holds 0;");
        due.is("force BAD", x.force(2), BAD);
        due.is("force BAD", x.force(-1), BAD);
        due.is("force BAD", x.force(MIN), BAD);
        due.is("force: RULE as before", x.count(5), 0);
        due.is("force", x.force(1), 0);
        due.is("force: RULE", x.count(5), 1);
        due.is("force: SAYS", x.told(0, 9), 5);
        due.is("force", x.force(0), 1);
        due.is("force: SAYS", x.told(0, 9), 20);
    }

    // Promise 9

    private static void call() {
        MendedWithTheWord x = new MendedWithTheWord();
        due.is("call BAD: nobody", x.call(0), BAD);
        x.person(PERSON, 0);
        x.person(PERSON, 0);
        x.seam(1, 0, 200);
        x.seam(12, 1, 200);
        x.seam(23, 0, 240);
        x.seam(67, 0, 230);
        due.is("call BAD", x.call(2), BAD);
        due.is("call BAD", x.call(-1), BAD);
        due.is("call BAD", x.call(MIN), BAD);
        due.is("call BAD", x.call(32), BAD);
        due.is("call: nothing was MENDED", x.count(2), 0);
        due.is("call: what TAKES, if its PIECES are there or not", x.call(0), 2);
        due.is("call: MENDED till", x.told(0, 8), 9);
        due.is("call: another's", x.told(1, 8), NONE);
        due.is("call: what doesn't TAKE", x.told(2, 8), NONE);
        due.is("call: PIECES not there", x.told(3, 8), 9);
        x.set(0, 0, 3);
        x.set(3, 2, 20);
        due.is("call again: what holds stays", x.call(0), 1);
        due.is("call again: what holds stays", x.told(0, 8), 9);
        due.is("call again: another", x.told(2, 8), 12);
        x.set(0, 0, 10);
        x.set(3, 0, 30);
        due.is("call behind its DAY", x.call(0), 1);
        due.is("call behind its DAY: till", x.told(0, 8), 19);
        x.set(0, 0, 99);
        x.set(3, 0, 99);
        x.set(3, 1, 99);
        x.set(3, 2, 0);
        due.is("call on DAY 99", x.call(1), 1);
        due.is("call on DAY 99: till", x.told(1, 8), 108);
        x.person(DOG, 0);
        due.is("call of one who BROKE none", x.call(2), 0);
    }

    private static void callInTurn() {
        MendedWithTheWord x = new MendedWithTheWord();
        Due.text(x, "says 10 + mended; slacks 0; holds 20 + mended * 5;");
        x.force(1);
        x.person(PERSON, 0);
        x.seam(1, 0, 100);
        x.seam(12, 0, 110);
        x.seam(23, 0, 110);
        due.is("call: each is told as it is then", x.call(0), 2);
        due.is("call: HOLDS of the first", x.told(0, 8), 20);
        due.is("call: HOLDS of the second", x.told(1, 8), 25);
        due.is("call: the third comes too late", x.told(2, 8), NONE);
    }

    // Promise 10

    private static void vase() {
        MendedWithTheWord x = ring();
        vaseIs(x, "nothing called", 4, 0, 0, 3, 1, 0);
        x.call(0);
        vaseIs(x, "one called", 3, 0, 1, 3, 1, 1);
        x.call(1);
        x.call(2);
        vaseIs(x, "three called", 1, 1, 3, 3, 1, 7);
        x.set(3, 3, 20);
        vaseIs(x, "the fourth TAKES", 1, 1, 3, 4, 1, 7);
        x.call(3);
        vaseIs(x, "a ring has no LAST", 1, 1, 4, 4, 1, 0);
        x.set(1, 0, 3);
        vaseIs(x, "a PIECE less", 1, 1, 4, 4, 1, 3);
        x.set(1, 0, 1);
        vaseIs(x, "one PIECE", 1, 1, 4, 4, 1, 0);
        x.set(1, 0, 8);
        vaseIs(x, "eight PIECES", 5, 0, 4, 4, 5, 0);
        x.set(1, 0, 4);
        x.set(0, 0, 10);
        vaseIs(x, "behind all", 4, 0, 0, 0, 4, 0);
        due.is("vase BAD", x.vase(-1), BAD);
        due.is("vase BAD", x.vase(6), BAD);
        due.is("vase BAD", x.vase(MIN), BAD);
        MendedWithTheWord y = new MendedWithTheWord();
        y.person(BABY, 0);
        y.seam(1, 0, 200);
        y.seam(1, 0, 200);
        y.seam(23, 0, 200);
        y.call(0);
        vaseIs(y, "two between the same", 2, 0, 3, 3, 2, 4);
    }

    private static void vaseIs(MendedWithTheWord x, String when, int... wants) {
        for (int what = 0; what < 6; what++) {
            due.is("vase " + what + ", " + when, x.vase(what), wants[what]);
        }
    }

    // Promise 11

    private static void part() {
        MendedWithTheWord x = new MendedWithTheWord();
        x.set(1, 0, 8);
        x.person(PERSON, 0);
        x.seam(67, 0, 200);
        x.seam(56, 0, 200);
        x.seam(25, 0, 200);
        x.seam(2, 0, 200);
        x.seam(34, 0, 200);
        due.is("part, nothing called", x.part(0), 1);
        x.call(0);
        for (int piece : new int[] {0, 2, 5, 6, 7}) {
            due.is("part, by others between", x.part(piece), 1 + 4 + 32 + 64 + 128);
        }
        due.is("part", x.part(1), 2);
        due.is("part", x.part(3), 8 + 16);
        x.set(1, 0, 6);
        due.is("part, two PIECES less", x.part(0), 1 + 4 + 32);
        due.is("part BAD: not there", x.part(6), BAD);
        x.set(1, 0, 4);
        due.is("part: no way by a PIECE that isn't there", x.part(3), 8);
        due.is("part BAD", x.part(4), BAD);
        due.is("part BAD", x.part(-1), BAD);
        due.is("part BAD", x.part(MAX), BAD);
        x.set(0, 0, 10);
        due.is("part, behind all", x.part(0), 1);
    }

    // Promise 12

    private static void when() {
        MendedWithTheWord x = new MendedWithTheWord();
        x.person(PERSON, 0);
        x.person(PERSON, 0);
        due.is("when: no SEAM", x.when(1), NONE);
        x.seam(1, 0, 300);
        x.seam(12, 0, 342);
        due.is("when: both TAKE", x.when(0), 9);
        x.set(0, 0, 9);
        due.is("when: today", x.when(0), 9);
        x.set(0, 0, 12);
        due.is("when: today", x.when(0), 12);
        due.is("when: DAY stays", x.told(0, 0), 12);
        x.set(0, 0, 14);
        due.is("when: past", x.when(0), NONE);
        x.set(0, 0, 0);
        x.set(3, 0, 10);
        due.is("when: never both", x.when(0), NONE);
        x.seam(67, 1, 990);
        due.is("when: PIECES not there", x.when(1), 76);
        Due.text(x, "says day - 1; slacks 0; holds 0;");
        x.force(1);
        due.is("when: not on DAY 100", x.when(1), NONE);
        due.is("when BAD", x.when(2), BAD);
        due.is("when BAD", x.when(-1), BAD);
        due.is("when BAD", x.when(MAX), BAD);
        MendedWithTheWord y = new MendedWithTheWord();
        Due.text(y, "says day - 90 * mended; slacks 0; holds 0;");
        y.force(1);
        y.person(PERSON, 0);
        y.person(PERSON, 0);
        y.seam(1, 0, 990);
        y.seam(1, 1, 0);
        due.is("when: DAY 99", y.when(0), 99);
        y.call(1);
        due.is("when: mended as now", y.when(0), NONE);
        y.set(3, 0, 9);
        due.is("when: mended as now", y.when(0), 99);
    }

    // Promise 13

    private static void fewest() {
        MendedWithTheWord x = new MendedWithTheWord();
        due.is("fewest: nobody", x.fewest(0), NONE);
        due.is("fewest: nobody", x.fewest(1), NONE);
        for (int one = 0; one < 6; one++) {
            x.person(PERSON, 0);
        }
        x.set(1, 0, 3);
        x.seam(1, 5, 200);
        x.seam(12, 5, 990);
        x.seam(2, 4, 200);
        x.seam(12, 3, 200);
        due.is("fewest: least as bits", x.fewest(0), 8 + 16);
        due.is("fewest: how many", x.fewest(1), 2);
        x.set(3, 1, 20);
        due.is("fewest: one, though with a higher bit", x.fewest(0), 32);
        due.is("fewest: how many", x.fewest(1), 1);
        due.is("fewest: nothing was MENDED", x.count(2), 0);
        x.call(5);
        due.is("fewest: WHOLE already", x.fewest(0), 0);
        due.is("fewest: WHOLE already", x.fewest(1), 0);
        x.set(1, 0, 8);
        due.is("fewest: never", x.fewest(0), NONE);
        due.is("fewest: never", x.fewest(1), NONE);
        due.is("fewest BAD", x.fewest(2), BAD);
        due.is("fewest BAD", x.fewest(-1), BAD);
        due.is("fewest BAD", x.fewest(MIN), BAD);
        MendedWithTheWord y = new MendedWithTheWord();
        Due.text(y, "says mended; slacks 0; holds 0;");
        y.force(1);
        y.set(1, 0, 2);
        y.person(PERSON, 0);
        y.person(PERSON, 0);
        y.seam(23, 0, 0);
        y.seam(1, 1, 10);
        due.is("fewest: one makes another's TAKE", y.fewest(0), 3);
        y.set(5, 0, 1);
        y.set(5, 1, 0);
        due.is("fewest: by numbers of PEOPLE, not of SEAMS", y.fewest(0), NONE);
    }

    // Promise 14

    private static void wanted() {
        MendedWithTheWord x = new MendedWithTheWord();
        due.is("wanted: nobody", x.wanted(0), NONE);
        due.is("wanted: nobody", x.wanted(1), NONE);
        for (int one = 0; one < 4; one++) {
            x.person(PERSON, 0);
        }
        x.seam(1, 1, 200);
        x.seam(12, 2, 200);
        x.seam(23, 2, 200);
        x.seam(3, 3, 300);
        due.is("wanted", x.wanted(0), 2);
        due.is("wanted: PARTS", x.wanted(1), 3);
        due.is("wanted: nothing was MENDED", x.count(2), 0);
        x.set(3, 1, 99);
        due.is("wanted: of like ones the first", x.wanted(0), 1);
        due.is("wanted: of like ones the first", x.wanted(1), 3);
        x.call(1);
        x.call(2);
        due.is("wanted: what holds, holds without", x.wanted(0), 0);
        due.is("wanted: what holds, holds without", x.wanted(1), 2);
        due.is("wanted BAD", x.wanted(2), BAD);
        due.is("wanted BAD", x.wanted(-1), BAD);
        due.is("wanted BAD", x.wanted(MAX), BAD);
    }

    // Promise 15

    private static void soon() {
        MendedWithTheWord x = new MendedWithTheWord();
        x.person(PERSON, 0);
        x.set(1, 0, 3);
        due.is("soon: no SEAM", x.soon(), NONE);
        x.seam(1, 0, 300);
        x.seam(12, 0, 390);
        due.is("soon: the first holds till the second TAKES", x.soon(), 16);
        due.is("soon: DAY stays", x.told(0, 0), 0);
        due.is("soon: nothing was MENDED", x.count(2), 0);
        x.set(0, 0, 10);
        due.is("soon: from now on", x.soon(), 6);
        x.set(3, 1, 42);
        due.is("soon: on the last DAY of the first", x.soon(), 9);
        x.set(3, 1, 43);
        due.is("soon: the first holds no more", x.soon(), NONE);
        x.set(0, 0, 14);
        due.is("soon: too late for the first", x.soon(), NONE);
        x.set(1, 0, 1);
        due.is("soon: WHOLE today", x.soon(), 0);
        MendedWithTheWord y = new MendedWithTheWord();
        y.set(1, 0, 2);
        y.person(LOVER, 0);
        Due.text(y, "says day; slacks 0; holds 0;");
        y.force(1);
        y.seam(1, 0, 990);
        due.is("soon: DAY 99", y.soon(), 99);
        y.set(0, 0, 99);
        due.is("soon: DAY 99, today", y.soon(), 0);
        Due.text(y, "says day - 1; slacks 0; holds 0;");
        y.force(2);
        due.is("soon: not on DAY 100", y.soon(), NONE);
    }

    // Promise 16

    private static void gentler() {
        MendedWithTheWord x = new MendedWithTheWord();
        x.person(PERSON, 0);
        x.set(1, 0, 2);
        due.is("gentler: no SEAM", x.gentler(), NONE);
        x.seam(1, 0, 230);
        due.is("gentler: none", x.gentler(), 0);
        x.set(3, 0, 24);
        due.is("gentler", x.gentler(), 1);
        x.set(3, 0, 99);
        due.is("gentler", x.gentler(), 76);
        due.is("gentler: SLACK stays", x.told(0, 10), 3);
        due.is("gentler: nothing was MENDED", x.count(2), 0);
        due.is("gentler: nobody is gentler behind it", x.fewest(0), NONE);
        Due.text(x, "says 0; slacks 0; holds 0;");
        x.force(1);
        due.is("gentler: 99", x.gentler(), 99);
        x.set(1, 0, 1);
        due.is("gentler: WHOLE", x.gentler(), 0);
        MendedWithTheWord y = new MendedWithTheWord();
        Due.text(y, "says 10 * mended; slacks 0; holds 0;");
        y.force(1);
        y.set(1, 0, 2);
        y.person(DOG, 0);
        y.person(PERSON, 0);
        y.seam(23, 0, 20);
        y.seam(1, 1, 40);
        due.is("gentler: more SLACK for all, by turns", y.gentler(), 6);
        y.set(3, 1, 15);
        due.is("gentler: the first is MENDED meanwhile", y.gentler(), 5);
    }

    // Promise 17

    private static void tells() {
        MendedWithTheWord x = new MendedWithTheWord();
        x.person(LOVER, 4);
        x.person(PERSON, 4);
        x.seam(1, 0, 203);
        Due.text(x, "says 20 + day + (force < 3); slacks 0; holds 0;");
        x.sheet(2, 1, 9);
        for (int day = 0; day < 9; day++) {
            x.cell(2, day, 20 + day + (day == 0 || day == 7 ? 4 : 0));
        }
        x.set(0, 0, 50);
        tellsAre(x, 2, 0, 0, NONE, 2, 16, 1023, 100, 0, 1 + 2);
        tellsAre(x, 2, 1, 0, 0, 2, 0, 0, 0, NONE, 0);
        due.is("tells: who BROKE it stays", x.told(0, 5), 0);
        due.is("tells: DAY stays", x.told(0, 0), 50);
        x.cell(2, 8, 29);
        tellsAre(x, 2, 0, 0, 8, 0, 0, 0, 0, NONE, 0);
        x.cell(2, 8, 28);
        x.force(1);
        tellsAre(x, 2, 0, 0, NONE, 2, 16, 1023 - 7, 100, 0, 1 + 2);
        x.set(4, 0, 2);
        tellsAre(x, 2, 0, 0, 0, 0, 0, 1023 - 7, 0, NONE, 1);
        tones();
        tellsEdges();
    }

    private static void tones() {
        MendedWithTheWord x = new MendedWithTheWord();
        x.person(DOG, 2);
        x.person(PERSON, 2);
        Due.text(x, "says tone * (30 < tone) + mended * 7; slacks 99; holds 99;");
        x.force(1);
        x.seam(1, 0, 0);
        x.seam(1, 1, 0);
        x.sheet(0, 0, 2);
        x.cell(0, 0, 50);
        x.cell(0, 1, 50);
        tellsAre(x, 0, 1, 0, 0, 0, 0, 0, 1, 50, 0);
        x.cell(0, 0, 0);
        x.cell(0, 1, 0);
        tellsAre(x, 0, 1, 0, NONE, 1 + 4 + 16, 1023, 1023, 31, 0, 2);
        x.call(1);
        x.cell(0, 0, 40);
        x.cell(0, 1, 40);
        due.is("tells: mended as now", x.tells(0, 1, 0, 5), 33);
        due.is("tells: TONE stays", x.told(0, 3), 0);
        x.cell(0, 0, 18);
        x.cell(0, 1, 18);
        tellsAre(x, 0, 0, 1, NONE, 32, 4, 1023, 100, 0, 3);
        Due.text(x, "says tone = 100; slacks 0; holds 0;");
        x.force(2);
        x.cell(0, 0, 1);
        x.cell(0, 1, 1);
        tellsAre(x, 0, 1, 1, 0, 0, 0, 0, 0, NONE, 0);
        x.force(1);
        due.is("tells: NUMBER stays", x.told(0, 2), 2);
        due.is("tells: KIND stays", x.told(0, 6), DOG);
        due.is("tells: RULE stays", x.count(5), 1);
    }

    private static void tellsEdges() {
        MendedWithTheWord x = new MendedWithTheWord();
        x.person(PERSON, 0);
        x.seam(1, 0, 0);
        x.sheet(0, 2, 0);
        tellsAre(x, 0, 0, 0, NONE, 63, 1023, 1023, 100, 0, 1);
        x.sheet(1, 2, 40);
        for (int day = 0; day < 40; day++) {
            x.cell(1, day, 20 + day);
        }
        tellsAre(x, 1, 0, 0, NONE, 1 + 2, 1023, 1023, 100, 0, 1);
        x.cell(1, 39, 20 + 39 + 65536);
        due.is("tells: ints are whole", x.tells(1, 0, 0, 0), 39);
        due.is("tells -11", x.tells(3, 0, 0, 0), NOTHING);
        int[][] bad = {{-1, 0, 0, 0}, {4, 0, 0, 0}, {3, -1, 0, 0}, {3, 1, 0, 0}, {3, 0, -1, 0}, {3, 0, 1, 0},
            {3, 0, 0, -1}, {3, 0, 0, 7}, {MIN, 0, 0, 0}, {0, MAX, 0, 0}, {0, 0, MIN, 0}, {0, 0, 0, MAX}};
        for (int[] b : bad) {
            due.is("tells BAD, ahead of -11", x.tells(b[0], b[1], b[2], b[3]), BAD);
        }
    }

    private static void tellsAre(MendedWithTheWord x, int sheet, int one, int seam, int... wants) {
        for (int what = 0; what < 7; what++) {
            due.is("tells " + what + " of " + one + " and " + seam, x.tells(sheet, one, seam, what), wants[what]);
        }
    }

    // Promise 18

    private static void film() {
        MendedWithTheWord x = new MendedWithTheWord();
        x.person(PERSON, 0);
        x.person(BABY, 0);
        x.seam(1, 0, 0);
        x.set(0, 0, 60);
        due.is("film", x.film(0, 1, 0, 40), 40);
        due.is("film: who BROKE it stays", x.told(0, 5), 0);
        due.is("film: DAY stays", x.told(0, 0), 60);
        due.is("film: as one SAYS", x.tells(0, 1, 0, 0), NONE);
        due.is("film: KINDS", x.tells(0, 1, 0, 1), 16);
        due.is("film: as told", x.tells(0, 0, 0, 0), 1);
        due.is("film: bytes", x.people(0, 0, 0, 0), 0);
        due.is("film: 40 of them", x.cell(0, 39, 0), 1);
        due.is("film: 40 of them", x.cell(0, 40, 0), OUTSIDE);
        due.is("film of a row that was of ints", x.sheet(1, 2, 3), 1);
        due.is("film of a row that was of ints", x.film(1, 0, 0, 2), 2);
        due.is("film: bytes", x.people(1, 0, 0, 0), 0);
        due.is("film: 2 of them", x.cell(1, 2, 0), OUTSIDE);
        due.is("film of none", x.film(2, 0, 0, 0), 0);
        due.is("film of none: not missing", x.cell(2, 0, 0), OUTSIDE);
        int[][] bad = {{-1, 0, 0, 0}, {4, 0, 0, 0}, {0, -1, 0, 0}, {0, 2, 0, 0}, {0, 0, -1, 0}, {0, 0, 1, 0},
            {0, 0, 0, -1}, {0, 0, 0, 41}, {MAX, 0, 0, 0}, {0, MIN, 0, 0}, {0, 0, MAX, 0}, {0, 0, 0, MIN}};
        List<Integer> before = Due.state(x);
        for (int[] b : bad) {
            due.is("film BAD", x.film(b[0], b[1], b[2], b[3]), BAD);
        }
        due.same("film BAD: state", Due.state(x), before);
    }

    // Promise 19

    private static void drawn() {
        MendedWithTheWord x = new MendedWithTheWord();
        due.is("drawn: no SEAMS", x.drawn(7), 0);
        x.person(PERSON, 0);
        x.set(0, 0, 20);
        for (int s = 0; s < 10; s++) {
            x.seam(67, 0, 9);
        }
        for (int seed : new int[] {0, 1, -1, 12345, MIN, MAX}) {
            int want = 0;
            int z = seed;
            for (int s = 0; s < 10; s++) {
                z = z * 1103515245 + 12345;
                want += Math.abs((z >>> 9) % 100 - 40) <= 12 ? 1 : 0;
            }
            due.is("drawn " + seed, x.drawn(seed), want);
        }
        due.is("drawn: TONES stay", x.told(0, 3), 0);
    }

    // Promise 20

    private static void chance() {
        MendedWithTheWord x = new MendedWithTheWord();
        x.set(1, 0, 2);
        x.person(PERSON, 0);
        x.seam(1, 0, 9);
        x.set(0, 0, 30);
        for (int seed : new int[] {0, 5, MAX - 3, MIN}) {
            for (int m = 1; m <= 20; m++) {
                int good = 0;
                for (int k = 0; k < m; k++) {
                    int tone = (((seed + k) * 1103515245 + 12345) >>> 9) % 100;
                    good += Math.abs(tone - 50) <= 12 ? 1 : 0;
                }
                int divisor = m;
                while (m % divisor != 0 || good % divisor != 0) {
                    divisor--;
                }
                due.is("chance above " + seed + " " + m, x.chance(seed, m, 0), good / divisor);
                due.is("chance below " + seed + " " + m, x.chance(seed, m, 1), m / divisor);
            }
        }
        due.is("chance: nothing was MENDED", x.count(2), 0);
        due.is("chance: TONES stay", x.told(0, 3), 0);
        x.set(1, 0, 1);
        due.is("chance: always, above", x.chance(0, 20, 0), 1);
        due.is("chance: always, below", x.chance(0, 20, 1), 1);
        x.set(1, 0, 3);
        due.is("chance: never, above", x.chance(0, 20, 0), 0);
        due.is("chance: never, below", x.chance(0, 20, 1), 1);
        int[][] bad = {{0, 0}, {21, 0}, {-1, 1}, {MIN, 0}, {MAX, 0}, {1, -1}, {1, 2}, {20, MIN}, {20, MAX}};
        for (int[] b : bad) {
            due.is("chance NO", x.chance(0, b[0], b[1]), MendedWithTheWord.NO);
        }
    }

    // Promises 21, 22

    private static void imageAndBack() {
        MendedWithTheWord x = ring();
        due.is("back STATE", x.back(), STATE);
        x.call(0);
        Due.text(x, "says 1;slacks 2;holds 3;");
        x.force(1);
        List<Integer> before = Due.state(x);
        due.is("image", x.image(), 4);
        x.set(0, 0, 4);
        x.set(1, 0, 7);
        x.set(2, 0, 9);
        x.set(3, 0, 9);
        x.set(4, 0, 9);
        x.set(5, 0, 3);
        x.force(0);
        x.call(1);
        x.person(DOG, 8);
        x.seam(67, 4, 5);
        due.is("back", x.back(), 4);
        due.same("back: all as it was", Due.state(x), before);
        due.is("back: who came since is gone", x.told(4, 6), BAD);
        due.is("back: what came since is gone", x.told(4, 7), BAD);
        due.is("back again", x.back(), 4);
        due.is("back: another may come", x.person(BABY, 2), 4);
        due.is("back: as another KIND", x.told(4, 6), BABY);
        due.is("back: another SEAM", x.seam(1, 4, 0), 4);
        due.is("back: not MENDED", x.told(4, 8), NONE);
        imageAnew();
    }

    private static void imageAnew() {
        MendedWithTheWord x = ring();
        Due.text(x, "says 1;slacks 2;holds 3;");
        x.image();
        Due.feed(x, "says");
        x.sheet(0, 0, 3);
        Due.feed(x, " ");
        x.back();
        due.is("back: THE TAPE is not laid back", x.count(4), 5);
        due.is("back: SHEETS are not laid back", x.cell(0, 2, 1), 1);
        due.is("back: TEXTS are not laid back", Due.text(x, "2;slacks 2;holds 2;"), 2);
        x.back();
        due.is("back: TEXTS are not laid back", x.count(3), 3);
        x.person(CHILD, 1);
        due.is("image anew", x.image(), 5);
        x.set(0, 0, 77);
        due.is("back to the last image", x.back(), 5);
        due.is("back to the last image", x.told(0, 0), 0);
        MendedWithTheWord y = new MendedWithTheWord();
        due.is("image of nobody", y.image(), 0);
        y.person(0, 0);
        due.is("back to nobody", y.back(), 0);
    }

    // Promise 23

    private static void count() {
        MendedWithTheWord x = ring();
        x.call(0);
        x.call(1);
        Due.text(x, "says 1;slacks 2;holds 3;");
        Due.feed(x, "abc");
        x.force(1);
        int[] wants = {4, 4, 2, 2, 3, 1};
        for (int what = 0; what < 6; what++) {
            due.is("count " + what, x.count(what), wants[what]);
        }
        x.set(0, 0, 90);
        due.is("count: MENDED, though it holds no more", x.count(2), 2);
        due.is("count BAD", x.count(-1), BAD);
        due.is("count BAD", x.count(6), BAD);
        due.is("count BAD", x.count(MIN), BAD);
    }

    // Promise 24

    private static void sheet() {
        MendedWithTheWord x = new MendedWithTheWord();
        x.person(PERSON, 0);
        x.seam(1, 0, 0);
        for (int sort = 0; sort < 3; sort++) {
            due.is("sheet", x.sheet(sort, sort, 40), 1);
            due.is("sheet: its sort", x.people(sort, sort, 0, 0), 0);
            due.is("sheet: its last item", x.cell(sort, 39, 0), 1);
            due.is("sheet: no more", x.cell(sort, 40, 0), OUTSIDE);
        }
        Due.text(x, "says 0;slacks 0;holds 0;");
        x.force(1);
        x.cell(0, 5, 9);
        due.is("sheet: what stands there", x.tells(0, 0, 0, 0), 5);
        x.sheet(0, 0, 40);
        due.is("sheet: all 0", x.tells(0, 0, 0, 0), NONE);
        due.is("sheet of none", x.sheet(0, 1, 0), 1);
        due.is("sheet of none: not missing", x.cell(0, 0, 0), OUTSIDE);
        due.is("sheet missing, n does not matter", x.sheet(0, -1, MIN), 1);
        due.is("sheet missing", x.cell(0, 0, 0), NOTHING);
        due.is("sheet missing, n does not matter", x.sheet(1, -1, MAX), 1);
        due.is("sheet missing", x.cell(1, 0, 0), NOTHING);
        due.is("sheet missing again", x.sheet(1, -1, 0), 1);
        List<Integer> before = Due.state(x);
        due.is("sheet BAD", x.sheet(-1, 0, 1), BAD);
        due.is("sheet BAD", x.sheet(4, 0, 1), BAD);
        due.is("sheet BAD", x.sheet(4, -1, 1), BAD);
        due.is("sheet BAD sort", x.sheet(2, 3, 1), BAD);
        due.is("sheet BAD sort", x.sheet(2, -2, 1), BAD);
        due.is("sheet BAD n", x.sheet(2, 0, 41), BAD);
        due.is("sheet BAD n", x.sheet(2, 0, MAX), BAD);
        due.is("sheet -14", x.sheet(2, 0, -1), BELOW_ZERO);
        due.is("sheet -14", x.sheet(2, 0, MIN), BELOW_ZERO);
        due.is("sheet BAD ahead of -14", x.sheet(2, 3, -1), BAD);
        due.is("sheet BAD ahead of -14", x.sheet(4, 0, -1), BAD);
        due.same("sheet refused: state", Due.state(x), before);
        due.is("sheet refused: its sort", x.people(2, 2, 0, 0), 0);
    }

    // Promise 25

    private static void cell() {
        MendedWithTheWord x = new MendedWithTheWord();
        due.is("cell -11", x.cell(0, 0, 0), NOTHING);
        due.is("cell BAD", x.cell(-1, 0, 0), BAD);
        due.is("cell BAD", x.cell(4, 0, 0), BAD);
        due.is("cell BAD", x.cell(MIN, 0, 0), BAD);
        x.sheet(0, 0, 2);
        due.is("cell -12", x.cell(0, -1, 0), OUTSIDE);
        due.is("cell -12", x.cell(0, 2, 0), OUTSIDE);
        due.is("cell -12", x.cell(0, MAX, 0), OUTSIDE);
        x.sheet(1, 1, 2);
        x.sheet(2, 2, 2);
        // What an item is shows by whom people() lets come: KIND 0, NUMBER 3 or none such.
        due.is("cell of bytes", x.cell(0, 1, 256 + 3), 1);
        due.is("cell of bytes: lowest 8 bits", x.people(0, 0, 0, 1), 1);
        due.is("cell of bytes: lowest 8 bits", x.told(0, 2), 3);
        due.is("cell of bytes", x.cell(0, 1, -253), 1);
        due.is("cell of bytes: lowest 8 bits", x.people(0, 0, 0, 1), 1);
        due.is("cell of shorts", x.cell(1, 1, 256 + 3), 1);
        due.is("cell of shorts: more than 8 bits", x.people(1, 1, 0, 1), 0);
        due.is("cell of shorts", x.cell(1, 1, 65536 + 4), 1);
        due.is("cell of shorts: lowest 16 bits", x.people(1, 1, 0, 1), 1);
        due.is("cell of shorts: lowest 16 bits", x.told(2, 2), 4);
        due.is("cell of ints", x.cell(2, 1, 65536 + 4), 1);
        due.is("cell of ints: more than 16 bits", x.people(2, 2, 0, 1), 0);
        due.is("cell of ints", x.cell(2, 1, 5), 1);
        due.is("cell of ints", x.people(2, 2, 0, 1), 1);
        due.is("cell of ints", x.told(3, 2), 5);
    }

    // Promise 26

    private static void copy() {
        MendedWithTheWord x = new MendedWithTheWord();
        for (int sheet = 0; sheet < 3; sheet++) {
            x.sheet(sheet, sheet == 2 ? 1 : 0, 6);
        }
        due.is("copy BAD", x.copy(-1, 0, 0, 0, 0), BAD);
        due.is("copy BAD", x.copy(4, 0, 3, 0, 0), BAD);
        due.is("copy BAD ahead of -11", x.copy(3, 0, 4, 0, -1), BAD);
        due.is("copy BAD", x.copy(0, 0, MIN, 0, 0), BAD);
        due.is("copy -11 ahead of -12", x.copy(3, 0, 0, 0, -1), NOTHING);
        due.is("copy -11 ahead of -13", x.copy(2, 0, 3, 0, 0), NOTHING);
        due.is("copy -13 ahead of -12", x.copy(0, 0, 2, 0, -1), OTHER_SORT);
        due.is("copy -13", x.copy(2, 0, 1, 0, 1), OTHER_SORT);
        int[][] outside = {{-1, 0, 1}, {0, -1, 1}, {0, 0, -1}, {0, 0, 7}, {1, 0, 6}, {0, 1, 6}, {6, 0, 1}, {0, 6, 1},
            {7, 0, 0}, {0, 7, 0}, {-1, 0, 0}, {0, -1, 0}, {MAX, 0, 1}, {0, MAX, 1}, {MAX, MAX, MAX}, {1, 1, MAX},
            {MIN, 0, 0}, {0, MIN, 6}, {0, 0, MIN}};
        for (int[] o : outside) {
            due.is("copy -12 " + o[0] + " " + o[1] + " " + o[2], x.copy(0, o[0], 1, o[1], o[2]), OUTSIDE);
        }
        due.is("copy of none at the end", x.copy(0, 6, 1, 6, 0), 0);
        for (int i = 0; i < 6; i++) {
            x.cell(0, i, i % 2 == 0 ? 0 : i);
        }
        due.is("copy", x.copy(0, 2, 1, 0, 4), 4);
        due.is("copy: what came", x.people(1, 0, 0, 3), 3);
        due.is("copy: what came", x.told(0, 2), 3);
        due.is("copy: what came", x.told(1, 2), 5);
        due.is("copy: what stayed", x.told(2, 2), 0);
        due.is("copy: from where it came it stays", x.people(0, 0, 0, 1), 1);
        due.is("copy: from where it came it stays", x.told(3, 2), 1);
        copyWithinOne();
    }

    private static void copyWithinOne() {
        MendedWithTheWord x = new MendedWithTheWord();
        x.sheet(0, 2, 6);
        for (int i = 0; i < 3; i++) {
            x.cell(0, 2 * i, i);
            x.cell(0, 2 * i + 1, 7 + i);
        }
        due.is("copy within one, onward", x.copy(0, 0, 0, 2, 4), 4);
        due.is("copy within one", x.people(0, 2, 0, 3), 3);
        due.is("copy within one: as they were", x.told(1, 6) * 10 + x.told(1, 2), 7);
        due.is("copy within one: as they were", x.told(2, 6) * 10 + x.told(2, 2), 18);
        due.is("copy within one, back", x.copy(0, 2, 0, 0, 4), 4);
        due.is("copy within one, back", x.people(0, 2, 0, 3), 3);
        due.is("copy within one: as they were", x.told(4, 6) * 10 + x.told(4, 2), 18);
    }

    // Promise 27

    private static void people() {
        MendedWithTheWord x = new MendedWithTheWord();
        due.is("people BAD", x.people(-1, 0, 0, 0), BAD);
        due.is("people BAD", x.people(4, 0, 0, 0), BAD);
        due.is("people BAD sort", x.people(0, -1, 0, 0), BAD);
        due.is("people BAD sort", x.people(0, 3, 0, 0), BAD);
        due.is("people BAD n", x.people(0, 0, 0, -1), BAD);
        due.is("people BAD n", x.people(0, 0, 0, 7), BAD);
        due.is("people BAD", x.people(MIN, MAX, MIN, MAX), BAD);
        due.is("people -11", x.people(0, 0, 0, 0), NOTHING);
        x.sheet(0, 2, 9);
        int[] cells = {1, 2, 6, 0, 3, 4, 5, 6, 2};
        for (int i = 0; i < 9; i++) {
            x.cell(0, i, cells[i]);
        }
        due.is("people -13", x.people(0, 0, 0, 0), OTHER_SORT);
        due.is("people -13 ahead of -12", x.people(0, 1, 99, 6), OTHER_SORT);
        due.is("people -12", x.people(0, 2, -1, 1), OUTSIDE);
        due.is("people -12", x.people(0, 2, MIN, 6), OUTSIDE);
        due.is("people -12", x.people(0, 2, MAX, 6), OUTSIDE);
        due.is("people -12: half of one", x.people(0, 2, 8, 1), OUTSIDE);
        due.is("people -12", x.people(0, 2, 9, 1), OUTSIDE);
        due.is("people: nobody came", x.count(0), 0);
        due.is("people, none of them", x.people(0, 2, 0, 0), 0);
        due.is("people, none of them from nowhere", x.people(0, 2, 99, 0), 0);
        due.is("people: one is left out", x.people(0, 2, 0, 3), 2);
        due.is("people: who came", x.told(0, 6) * 10 + x.told(0, 2), 12);
        due.is("people: who came", x.told(1, 6) * 10 + x.told(1, 2), 34);
        due.is("people: what stood ahead came", x.people(0, 2, 4, 6), OUTSIDE);
        due.is("people: what stood ahead came", x.count(0), 4);
        due.is("people: who came", x.told(3, 6) * 10 + x.told(3, 2), 56);
        due.is("people: two have room", x.people(0, 2, 4, 2), 2);
        due.is("people: nobody has room", x.people(0, 2, 4, 2), 0);
        due.is("people: -12, though nobody has room", x.people(0, 2, 4, 3), OUTSIDE);
        due.is("people: no more", x.count(0), 6);
    }

    // Promise 28

    private static void taken() {
        MendedWithTheWord x = new MendedWithTheWord();
        String[] under = {"0", "01", "02", "013", "024", "05"};
        for (int kind = 0; kind < 6; kind++) {
            x.person(kind, 3 + kind);
            for (int k = 0; k < 6; k++) {
                int want = under[kind].indexOf('0' + k) >= 0 ? 3 + kind : OTHER_SORT;
                due.is("taken: KIND " + kind + " for " + k, x.taken(kind, k), want);
            }
        }
        due.is("taken BAD", x.taken(0, -1), BAD);
        due.is("taken BAD", x.taken(0, 6), BAD);
        due.is("taken BAD", x.taken(0, MIN), BAD);
        due.is("taken BAD ahead of -11", x.taken(6, 6), BAD);
        due.is("taken -11", x.taken(6, 0), NOTHING);
        due.is("taken -11", x.taken(-1, 0), NOTHING);
        due.is("taken -11", x.taken(MAX, 5), NOTHING);
    }

    // "Refusals ... change nothing"

    private static void refusalsChangeNothing() {
        MendedWithTheWord x = ring();
        x.person(0, 0);
        x.person(0, 0);
        for (int s = 4; s < 10; s++) {
            x.seam(1, 0, 0);
        }
        x.call(0);
        x.sheet(0, 0, 3);
        Due.feed(x, "says");
        List<Integer> before = Due.state(x);
        x.person(0, 0);
        x.person(9, 9);
        x.seam(1, 0, 0);
        x.seam(1, 9, 0);
        x.feed(256);
        x.force(1);
        x.call(6);
        x.cell(0, 3, 1);
        x.cell(1, 0, 1);
        x.copy(0, 0, 0, 1, 3);
        x.copy(1, 0, 0, 0, 1);
        x.people(0, 1, 0, 1);
        x.film(0, 6, 0, 2);
        x.back();
        due.same("refused: state", Due.state(x), before);
    }

    private static MendedWithTheWord twoPeopleOneSeam() {
        MendedWithTheWord x = new MendedWithTheWord();
        x.person(PERSON, 3);
        x.person(LOVER, 7);
        x.seam(12, 0, 256);
        return x;
    }

    /** Four PIECES, four PEOPLE, each with a SEAM to the next; the last one's is off. */
    private static MendedWithTheWord ring() {
        MendedWithTheWord x = new MendedWithTheWord();
        for (int one = 0; one < 4; one++) {
            x.person(PERSON, one);
        }
        x.seam(1, 0, 200);
        x.seam(12, 1, 200);
        x.seam(23, 2, 200);
        x.seam(3, 3, 500);
        return x;
    }

    private static MendedWithTheWord byText(String text, int kind, int number, int force) {
        MendedWithTheWord x = new MendedWithTheWord();
        Due.text(x, text);
        due.is("force for " + text, x.force(1), 0);
        x.person(kind, number);
        x.seam(1, 0, force);
        return x;
    }

    private static int said(int kind, int number, int day, String says) {
        MendedWithTheWord x = byText("says " + says + ";slacks 0;holds 0;", kind, number, 0);
        x.set(0, 0, day);
        return x.told(0, 9);
    }

    private static int slack(int kind, int number, int force, String slacks) {
        return byText("says 0;slacks " + slacks + ";holds 0;", kind, number, force).told(0, 10);
    }

    private static int holds(int kind, String holds) {
        MendedWithTheWord x = byText("says 0;slacks 99;holds " + holds + ";", kind, 0, 0);
        x.set(0, 0, 2);
        x.call(0);
        return x.told(0, 8) - 2;
    }

    private static void value(String e, int want) {
        due.is(e, said(PERSON, 0, 0, e), want);
    }

    /** Without a FAULT (NONE) it is TEXT 1. */
    private static void fault(String text, int place) {
        due.is("text \"" + text + "\"", Due.text(new MendedWithTheWord(), text), place == NONE ? 1 : -100 - place);
    }
}
