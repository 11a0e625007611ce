/** Each sentence of the document on what would be, what was heard and the host that names an edge, by the promises. */
public final class CallsEdgesTest {
    private static final int NONE = -1, BAD = -2, STATE = -3, FULL = -4;
    private static final int NOTHING = -11, OUTSIDE = -12, OTHER_SORT = -13;
    private static final int MIN = Integer.MIN_VALUE, MAX = Integer.MAX_VALUE;
    private static final int PERSON = 0, LOVER = 1, CHILD = 2, PARTED = 3, BABY = 4, DOG = 5;

    private static final Due due = new Due("CallsEdgesTest");

    public static void main(String[] args) {
        nobody();
        nobodyAndOnePiece();
        noSeams();
        setAnswersWhatItWas();
        whatDoesNotMatter();
        betweenWhichPieces();
        could();
        last();
        whenFromNowOn();
        whenToDay99();
        whenAll();
        fewestOfLikeOnes();
        fewestOfAll();
        wantedOfLikeOnes();
        wantedWithoutOne();
        soonToDay99();
        soonByDays();
        gentlerByOne();
        gentlerAtItsBounds();
        tellsOfNoItems();
        tellsOfFortyItems();
        tellsOfWideItems();
        tellsByNumbersForcesTexts();
        tellsTones();
        tellsKinds();
        filmAsItIsNow();
        filmOfNoneAndForty();
        drawnWraps();
        chanceAtItsBounds();
        chanceInLowestTerms();
        imageOfNobodyAndOfAll();
        imageKeeps();
        backAgain();
        sheetsOfNoneAndForty();
        sheetIsMissing();
        cellsOfBytes();
        cellsOfShorts();
        cellsOfInts();
        copyAtTheEnds();
        copyAsTheyWere();
        peopleTwoByTwo();
        peopleOthersAreLeftOut();
        peopleWhatStoodAheadCame();
        peopleOfEachSort();
        takenAtTheBounds();
        due.end();
    }

    /** Promise 1: "Four PIECES, nobody, no SEAMS." */
    private static void nobody() {
        MendedWithTheWord x = new MendedWithTheWord();
        answers("nobody, count", 6, x::count, 0, 0, 0, 1, 0, 0);
        answers("nobody, vase", 6, x::vase, 4, 0, 0, 0, 4, 0);
        due.is("nobody: part", x.part(0), 1);
        due.is("nobody: call", x.call(0), BAD);
        due.is("nobody: when", x.when(0), BAD);
        due.is("nobody: fewest", x.fewest(0), NONE);
        due.is("nobody: fewest, how many", x.fewest(1), NONE);
        due.is("nobody: wanted", x.wanted(0), NONE);
        due.is("nobody: wanted, PARTS", x.wanted(1), NONE);
        due.is("nobody: soon", x.soon(), NONE);
        due.is("nobody: gentler", x.gentler(), NONE);
        due.is("nobody: drawn", x.drawn(1), 0);
        due.is("nobody: chance above", x.chance(1, 3, 0), 0);
        due.is("nobody: chance below", x.chance(1, 3, 1), 1);
        due.is("nobody: taken", x.taken(0, 0), NOTHING);
        due.is("nobody: back", x.back(), STATE);
        due.is("nobody: image", x.image(), 0);
        due.is("nobody: back", x.back(), 0);
    }

    /** "WHOLE: one PART", "of all sets of PEOPLE": the empty one, too. */
    private static void nobodyAndOnePiece() {
        MendedWithTheWord x = new MendedWithTheWord();
        x.set(1, 0, 1);
        answers("one PIECE, vase", 6, x::vase, 1, 1, 0, 0, 1, 0);
        due.is("one PIECE: fewest", x.fewest(0), 0);
        due.is("one PIECE: fewest, how many", x.fewest(1), 0);
        due.is("one PIECE: wanted", x.wanted(0), NONE);
        due.is("one PIECE: wanted, PARTS", x.wanted(1), NONE);
        due.is("one PIECE: soon", x.soon(), 0);
        due.is("one PIECE: gentler", x.gentler(), 0);
        due.is("one PIECE: chance above", x.chance(1, 20, 0), 1);
        due.is("one PIECE: chance below", x.chance(1, 20, 1), 1);
        x.set(0, 0, 99);
        due.is("one PIECE: soon on DAY 99", x.soon(), 0);
        x.person(PERSON, 0);
        due.is("one PIECE, one person: fewest", x.fewest(0), 0);
        due.is("one PIECE, one person: wanted", x.wanted(0), 0);
        due.is("one PIECE, one person: wanted, PARTS", x.wanted(1), 1);
    }

    private static void noSeams() {
        MendedWithTheWord x = new MendedWithTheWord();
        x.person(PERSON, 0);
        due.is("no SEAMS: call", x.call(0), 0);
        due.is("no SEAMS: when", x.when(0), NONE);
        due.is("no SEAMS: wanted", x.wanted(0), 0);
        due.is("no SEAMS: wanted, PARTS", x.wanted(1), 4);
        due.is("no SEAMS: drawn", x.drawn(5), 0);
        due.is("no SEAMS: tells", x.tells(0, 0, 0, 0), BAD);
        due.is("no SEAMS: film", x.film(0, 0, 0, 0), BAD);
        due.is("no SEAMS: told", x.told(0, 7), BAD);
    }

    /** Promise 2: "becomes v: what it was" */
    private static void setAnswersWhatItWas() {
        MendedWithTheWord x = world();
        due.is("set DAY to what it is", x.set(0, 0, 0), 0);
        due.is("set who BROKE to the last", x.set(5, 0, 2), 0);
        due.is("who BROKE it", x.told(0, 5), 2);
        due.is("set who BROKE to the first", x.set(5, 0, 0), 2);
        due.is("set who BROKE to one behind the last", x.set(5, 0, 3), BAD);
        due.is("set who BROKE to one further behind", x.set(5, 0, 4), BAD);
        due.is("set who BROKE to one ahead of the first", x.set(5, 0, -1), BAD);
        due.is("set who BROKE to MAX", x.set(5, 0, MAX), BAD);
        due.is("who BROKE it stays", x.told(0, 5), 0);
        due.is("set NUMBER of the last", x.set(2, 2, 3), 9);
        due.is("set TONE of the last", x.set(3, 1, 31), 30);
        due.is("set FORCE of the last", x.set(4, 1, 5), 4);
        due.is("TONE of the other", x.told(0, 3), 20);
        due.is("FORCE of the other", x.told(0, 4), 3);
        due.is("NUMBER of the other", x.told(1, 2), 2);
    }

    /** Promises 2, 5, 24: "of does not matter", "n does not matter" */
    private static void whatDoesNotMatter() {
        MendedWithTheWord x = new MendedWithTheWord();
        int day = 0;
        int pieces = 4;
        for (int of : new int[] {MIN, -1, 0, 1, 6, 10, MAX}) {
            due.is("set DAY, of " + of, x.set(0, of, day + 1), day);
            day++;
            due.is("told DAY, of " + of, x.told(of, 0), day);
            due.is("set PIECES, of " + of, x.set(1, of, pieces % 8 + 1), pieces);
            pieces = pieces % 8 + 1;
            due.is("told PIECES, of " + of, x.told(of, 1), pieces);
            x.sheet(0, 0, 1);
            due.is("sheet missing, n " + of, x.sheet(0, -1, of), 1);
            due.is("it is missing, n " + of, x.cell(0, 0, 0), NOTHING);
        }
    }

    /** Promise 4: "(10 times the lesser, and the greater; 0 .. 7 each)" */
    private static void betweenWhichPieces() {
        for (int two = -12; two <= 120; two++) {
            MendedWithTheWord x = new MendedWithTheWord();
            x.person(PERSON, 0);
            boolean good = two >= 0 && two <= 67 && two / 10 < two % 10 && two % 10 <= 7;
            due.is("a SEAM between " + two, x.seam(two, 0, 0), good ? 0 : BAD);
            due.is("between which PIECES: " + two, x.told(0, 7), good ? two : BAD);
        }
        MendedWithTheWord x = new MendedWithTheWord();
        x.person(PERSON, 0);
        for (int two : new int[] {MIN, MIN + 1, -89, -98, 701, 1012, 1000001, MAX, MAX - 46}) {
            due.is("a SEAM between " + two, x.seam(two, 0, 0), BAD);
        }
        due.is("no SEAM came", x.count(1), 0);
    }

    /** "COULD: PARTS, were all SEAMS that TAKE now to hold, too." */
    private static void could() {
        MendedWithTheWord x = new MendedWithTheWord();
        Due.text(x, "says 50;slacks 0;holds 9;");
        x.force(1);
        x.set(1, 0, 3);
        x.person(PERSON, 0);
        x.seam(1, 0, 500);
        x.seam(12, 0, 510);
        due.is("COULD, one TAKES", x.vase(4), 2);
        x.call(0);
        due.is("COULD, one holds and TAKES", x.vase(4), 2);
        x.set(3, 0, 99);
        due.is("COULD, one holds and TAKES no more", x.vase(4), 2);
        x.set(3, 1, 50);
        due.is("COULD, one holds, another TAKES", x.vase(4), 1);
        due.is("PARTS are as many as hold", x.vase(0), 2);
        due.is("none TAKES but one", x.vase(3), 1);
        x.set(0, 0, 10);
        due.is("COULD, what held holds no more", x.vase(4), 2);
        due.is("COULD mends none", x.count(2), 1);
    }

    /** "LAST: SEAMS (bits) that hold now, and without each of which there would be more PARTS." */
    private static void last() {
        MendedWithTheWord x = new MendedWithTheWord();
        x.person(BABY, 0);
        x.person(PERSON, 0);
        for (int s = 0; s < 9; s++) {
            x.seam(67, 1, 200);
        }
        x.seam(1, 0, 0);
        x.call(0);
        due.is("LAST is the tenth SEAM", x.vase(5), 512);
        x.set(5, 0, 0);
        x.set(1, 0, 8);
        due.is("another is not MENDED", x.vase(5), 512);
        x.call(0);
        due.is("both are LAST", x.vase(5), 513);
        x.call(1);
        due.is("of like ones none is LAST", x.vase(5), 512);
        x.set(0, 0, 1);
        due.is("what holds no more is not LAST", x.vase(5), 0);
        due.is("what holds no more is not LAST, like ones hold", x.vase(2), 8);
    }

    /** "the first DAY from now on" */
    private static void whenFromNowOn() {
        MendedWithTheWord x = byText("says day;slacks 1;holds 0;", PERSON, 30);
        due.is("WHEN", x.when(0), 29);
        x.set(0, 0, 28);
        due.is("WHEN, tomorrow", x.when(0), 29);
        x.set(0, 0, 29);
        due.is("WHEN, now", x.when(0), 29);
        x.set(0, 0, 31);
        due.is("WHEN, now on the last", x.when(0), 31);
        x.set(0, 0, 32);
        due.is("WHEN, it is past", x.when(0), NONE);
        due.is("WHEN leaves DAY", x.told(0, 0), 32);
        x.set(0, 0, 0);
        x.set(3, 0, 1);
        due.is("WHEN, on DAY 0", x.when(0), 0);
    }

    /** "(to 99)" */
    private static void whenToDay99() {
        MendedWithTheWord x = byText("says day;slacks 0;holds 0;", PERSON, 99);
        due.is("WHEN, DAY 99", x.when(0), 99);
        x.set(0, 0, 99);
        due.is("WHEN, DAY 99 is now", x.when(0), 99);
        MendedWithTheWord y = byText("says (99 < day) * 99;slacks 0;holds 0;", PERSON, 99);
        due.is("WHEN, not on DAY 100", y.when(0), NONE);
        MendedWithTheWord z = byText("says day - 1;slacks 0;holds 0;", PERSON, 98);
        due.is("WHEN, DAY 99", z.when(0), 99);
        z.set(3, 0, 99);
        due.is("WHEN, never", z.when(0), NONE);
    }

    /** "on which all SEAMS that one BROKE would TAKE, mended as they are now; NONE, also if there are none" */
    private static void whenAll() {
        MendedWithTheWord x = byText("says day - mended;slacks 1 + force;holds 0;", PERSON, 20);
        x.person(PERSON, 0);
        x.seam(67, 0, 230);
        due.is("WHEN all TAKE, never", x.when(0), NONE);
        x.set(3, 1, 22);
        due.is("WHEN all TAKE, on one DAY", x.when(0), 21);
        x.set(4, 0, 9);
        due.is("WHEN all TAKE, what TAKES ahead waits", x.when(0), 21);
        due.is("WHEN, one who BROKE none", x.when(1), NONE);
        x.seam(1, 1, 0);
        due.is("WHEN, another's", x.when(1), 0);
        x.call(1);
        due.is("WHEN, mended as they are now", x.when(0), 22);
        due.is("WHEN mends none", x.count(2), 1);
        x.set(5, 0, 1);
        x.set(5, 1, 1);
        due.is("WHEN, none is one's any more", x.when(0), NONE);
        MendedWithTheWord y = byText("says day;slacks 0;holds 99;", PERSON, 0);
        y.call(0);
        due.is("WHEN, it holds and TAKES", y.when(0), 0);
        y.set(3, 0, 9);
        due.is("WHEN, it holds and would TAKE later", y.when(0), 9);
        y.set(0, 0, 10);
        due.is("WHEN, it holds, TAKES no more", y.when(0), NONE);
    }

    /** "that of fewest; of like ones the least as bits" */
    private static void fewestOfLikeOnes() {
        MendedWithTheWord x = six("says 20;slacks 0;holds 0;");
        x.set(1, 0, 2);
        x.seam(1, 5, 200);
        due.is("FEWEST, the sixth", x.fewest(0), 32);
        due.is("FEWEST, one", x.fewest(1), 1);
        x.seam(1, 3, 200);
        due.is("FEWEST, of two like ones", x.fewest(0), 8);
        x.seam(1, 0, 210);
        due.is("FEWEST, another's doesn't TAKE", x.fewest(0), 8);
        x.set(3, 2, 20);
        due.is("FEWEST, the first", x.fewest(0), 1);
        x.set(1, 0, 3);
        due.is("FEWEST, never", x.fewest(0), NONE);
        due.is("FEWEST, never, how many", x.fewest(1), NONE);
        x.seam(12, 4, 200);
        due.is("FEWEST, two", x.fewest(0), 1 + 16);
        due.is("FEWEST, two, how many", x.fewest(1), 2);
        x.set(3, 2, 99);
        due.is("FEWEST, two others", x.fewest(0), 8 + 16);
        x.seam(2, 1, 200);
        due.is("FEWEST, of like pairs", x.fewest(0), 2 + 8);
        x.set(3, 1, 99);
        due.is("FEWEST, of like pairs, another", x.fewest(0), 2 + 16);
        due.is("FEWEST, of like pairs, how many", x.fewest(1), 2);
        x.seam(2, 5, 200);
        due.is("FEWEST, one, though of a higher bit", x.fewest(0), 32);
        due.is("FEWEST, one, how many", x.fewest(1), 1);
        due.is("FEWEST mends none", x.count(2), 0);
    }

    private static void fewestOfAll() {
        MendedWithTheWord x = six("says 20;slacks 0;holds 0;");
        x.set(1, 0, 7);
        for (int one = 0; one < 6; one++) {
            due.is("FEWEST, not all yet", x.fewest(0), NONE);
            x.seam(11 * one + 1, one, 200);
        }
        due.is("FEWEST, all", x.fewest(0), 63);
        due.is("FEWEST, all, how many", x.fewest(1), 6);
        x.call(0);
        due.is("FEWEST, but one who came", x.fewest(0), 62);
        for (int one = 1; one < 6; one++) {
            x.call(one);
        }
        due.is("FEWEST, WHOLE", x.fewest(0), 0);
        due.is("FEWEST, WHOLE, how many", x.fewest(1), 0);
        x.set(0, 0, 1);
        due.is("FEWEST, none holds any more", x.fewest(0), 63);
        x.set(1, 0, 8);
        due.is("FEWEST, a PIECE more", x.fewest(0), NONE);
        MendedWithTheWord y = six("says mended * 10;slacks 0;holds 0;");
        y.set(1, 0, 2);
        y.seam(1, 1, 100);
        y.seam(67, 0, 0);
        due.is("FEWEST, by numbers: one ahead makes it TAKE", y.fewest(0), 3);
        y.set(5, 0, 0);
        y.set(5, 1, 1);
        due.is("FEWEST, by numbers: one behind doesn't", y.fewest(0), NONE);
    }

    /** "WANTED: .. of like ones the first" */
    private static void wantedOfLikeOnes() {
        MendedWithTheWord x = six("says 20;slacks 0;holds 0;");
        x.set(1, 0, 7);
        due.is("WANTED, none BROKE any", x.wanted(0), 0);
        due.is("WANTED, none BROKE any, PARTS", x.wanted(1), 7);
        x.seam(56, 5, 200);
        due.is("WANTED, the sixth", x.wanted(0), 5);
        due.is("WANTED, the sixth, PARTS", x.wanted(1), 7);
        x.seam(45, 3, 200);
        due.is("WANTED, of like ones", x.wanted(0), 3);
        due.is("WANTED, of like ones, PARTS", x.wanted(1), 6);
        x.seam(34, 5, 200);
        due.is("WANTED, of unlike ones", x.wanted(0), 5);
        due.is("WANTED, of unlike ones, PARTS", x.wanted(1), 6);
        x.seam(1, 0, 200);
        x.seam(12, 0, 200);
        due.is("WANTED, of like ones the first", x.wanted(0), 0);
        due.is("WANTED, of like ones the first, PARTS", x.wanted(1), 4);
        due.is("WANTED mends none", x.count(2), 0);
    }

    /** "(all others CALLED now, by numbers)" */
    private static void wantedWithoutOne() {
        MendedWithTheWord x = new MendedWithTheWord();
        x.set(1, 0, 2);
        x.person(PERSON, 0);
        x.seam(1, 0, 200);
        due.is("WANTED, the only one", x.wanted(0), 0);
        due.is("WANTED, the only one, PARTS", x.wanted(1), 2);
        x.call(0);
        due.is("WANTED, it holds without", x.wanted(0), 0);
        due.is("WANTED, it holds without, PARTS", x.wanted(1), 1);
        x.set(0, 0, 10);
        due.is("WANTED, it holds no more, PARTS", x.wanted(1), 2);
        MendedWithTheWord y = six("says mended * 10;slacks 0;holds 0;");
        y.set(1, 0, 3);
        y.seam(67, 1, 0);
        y.seam(1, 2, 100);
        y.seam(12, 3, 200);
        due.is("WANTED, who makes others TAKE", y.wanted(0), 1);
        due.is("WANTED, who makes others TAKE, PARTS", y.wanted(1), 3);
    }

    /** "(0: today; to DAY 99)" */
    private static void soonToDay99() {
        MendedWithTheWord x = byText("says day;slacks 0;holds 0;", PERSON, 99);
        x.set(1, 0, 2);
        due.is("SOON, 99 DAYS", x.soon(), 99);
        x.set(0, 0, 1);
        due.is("SOON, 98 DAYS", x.soon(), 98);
        x.set(0, 0, 98);
        due.is("SOON, tomorrow", x.soon(), 1);
        x.set(0, 0, 99);
        due.is("SOON, today", x.soon(), 0);
        due.is("SOON leaves DAY", x.told(0, 0), 99);
        due.is("SOON mends none", x.count(2), 0);
        MendedWithTheWord y = byText("says (99 < day) * 99;slacks 0;holds 0;", PERSON, 99);
        y.set(1, 0, 2);
        due.is("SOON, not on DAY 100", y.soon(), NONE);
        y.set(3, 0, 0);
        due.is("SOON, today", y.soon(), 0);
    }

    /** "were all CALLED on each, from now on, by numbers, till it is WHOLE behind that" */
    private static void soonByDays() {
        MendedWithTheWord x = byText("says day;slacks 0;holds 4;", PERSON, 10);
        x.set(1, 0, 3);
        x.seam(12, 0, 140);
        due.is("SOON, the first holds on its last DAY", x.soon(), 14);
        x.set(3, 1, 15);
        due.is("SOON, the first holds no more", x.soon(), NONE);
        x.set(3, 1, 14);
        x.set(0, 0, 10);
        due.is("SOON, from the DAY of the first", x.soon(), 4);
        x.set(0, 0, 11);
        due.is("SOON, from behind the DAY of the first", x.soon(), NONE);
        x.set(3, 1, 10);
        x.set(0, 0, 10);
        due.is("SOON, both today", x.soon(), 0);
        x.call(0);
        x.set(0, 0, 14);
        due.is("SOON, it is WHOLE on the last DAY", x.soon(), 0);
        x.set(0, 0, 15);
        due.is("SOON, it is WHOLE no more", x.soon(), NONE);
    }

    /** "the least that all SLACKS would have to be more (0 .. 99)" */
    private static void gentlerByOne() {
        MendedWithTheWord x = byText("says 50;slacks 5;holds 0;", PERSON, 55);
        x.set(1, 0, 2);
        due.is("GENTLER, off by SLACK", x.gentler(), 0);
        x.set(3, 0, 56);
        due.is("GENTLER, off by 1 more", x.gentler(), 1);
        x.set(3, 0, 44);
        due.is("GENTLER, off by 1 more below", x.gentler(), 1);
        x.set(3, 0, 57);
        due.is("GENTLER, off by 2 more", x.gentler(), 2);
        x.set(1, 0, 3);
        due.is("GENTLER, a PIECE more", x.gentler(), NONE);
        x.seam(12, 0, 0);
        due.is("GENTLER, all of them", x.gentler(), 45);
        x.seam(2, 0, 600);
        due.is("GENTLER, by other SEAMS", x.gentler(), 5);
        due.is("GENTLER mends none", x.count(2), 0);
        due.is("GENTLER leaves SLACK", x.told(0, 10), 5);
        due.is("GENTLER leaves what TAKES", x.vase(3), 0);
        due.is("GENTLER leaves what would be", x.fewest(0), NONE);
    }

    private static void gentlerAtItsBounds() {
        MendedWithTheWord x = byText("says 0;slacks 0;holds 0;", PERSON, 99);
        x.set(1, 0, 2);
        due.is("GENTLER, 99", x.gentler(), 99);
        x.set(3, 0, 98);
        due.is("GENTLER, 98", x.gentler(), 98);
        x.set(3, 0, 0);
        due.is("GENTLER, 0", x.gentler(), 0);
        x.set(1, 0, 1);
        x.set(3, 0, 99);
        due.is("GENTLER, WHOLE", x.gentler(), 0);
        MendedWithTheWord y = byText("says 99;slacks 0;holds 0;", DOG, 99);
        y.set(1, 0, 2);
        due.is("GENTLER, a DOG, too", y.gentler(), 99);
    }

    /** "A SHEET tells in which TONE one SAYS a SEAM on DAYS 0, 1, .. (40 at most)": of 0 DAYS nothing is otherwise. */
    private static void tellsOfNoItems() {
        MendedWithTheWord x = world();
        Due.text(x, "says 1;slacks 0;holds 0;");
        x.sheet(0, 0, 0);
        for (int one = 0; one < 3; one++) {
            int who = one;
            answers("no items, tells of " + one, 7, what -> x.tells(0, who, 0, what), NONE, 63, 1023, 1023, 100, 0, 3);
        }
    }

    private static void tellsOfFortyItems() {
        MendedWithTheWord x = world();
        x.sheet(0, 1, 40);
        for (int day = 0; day < 40; day++) {
            x.cell(0, day, 20 + day);
        }
        answers("forty items, tells", 7, what -> x.tells(0, 0, 0, what), NONE, 1, 1023, 1023, 100, 0, 1);
        x.cell(0, 39, 60);
        due.is("the last item is otherwise", x.tells(0, 0, 0, 0), 39);
        answers("the last item is otherwise, tells", 7, what -> x.tells(0, 0, 0, what), 39, 0, 0, 0, 0, NONE, 0);
        x.cell(0, 0, 19);
        due.is("the first that is otherwise", x.tells(0, 0, 0, 0), 0);
        x.cell(0, 0, 20);
        x.cell(0, 20, 41);
        due.is("the first that is otherwise", x.tells(0, 0, 0, 0), 20);
        due.is("tells leaves DAY", x.told(0, 0), 0);
    }

    /** Items are numbers as they stand: no bits of them are left aside. */
    private static void tellsOfWideItems() {
        MendedWithTheWord x = world();
        x.sheet(0, 1, 1);
        x.sheet(1, 2, 1);
        x.sheet(2, 0, 1);
        x.cell(0, 0, 20);
        due.is("a short of 20", x.tells(0, 0, 0, 0), NONE);
        x.cell(0, 0, 256 + 20);
        due.is("a short of 276", x.tells(0, 0, 0, 0), 0);
        x.cell(1, 0, 20);
        due.is("an int of 20", x.tells(1, 0, 0, 0), NONE);
        x.cell(1, 0, 65536 + 20);
        due.is("an int of 65556", x.tells(1, 0, 0, 0), 0);
        x.cell(1, 0, 256 + 20);
        due.is("an int of 276", x.tells(1, 0, 0, 0), 0);
        x.cell(2, 0, 256 + 20);
        due.is("a byte of 276", x.tells(2, 0, 0, 0), NONE);
        x.cell(2, 0, -20);
        due.is("a byte of -20", x.tells(2, 0, 0, 0), 0);
    }

    /** "NUMBERS (bits 0 .. 9) of one, FORCES (bits 0 .. 9) of it, TEXTS (bits), were they THE RULE" */
    private static void tellsByNumbersForcesTexts() {
        MendedWithTheWord x = world();
        x.sheet(0, 2, 1);
        x.sheet(1, 2, 1);
        x.cell(1, 0, 81);
        due.is("NUMBER 0 of a DOG", x.tells(0, 1, 0, 2), 1);
        due.is("NUMBER 9 of a DOG", x.tells(1, 1, 0, 2), 512);
        Due.text(x, "says number * 9;slacks 0;holds 0;");
        Due.text(x, "says force * 9;slacks 0;holds 0;");
        Due.text(x, "says force = 3;slacks 0;holds 0;");
        Due.text(x, "says 81;slacks 0;holds 0;");
        due.is("no TEXT more", Due.text(x, "says seam;slacks 0;holds 0;"), 5);
        x.force(1);
        due.is("NUMBER 0 by a text", x.tells(0, 0, 0, 2), 1);
        due.is("NUMBER 9 by a text", x.tells(1, 0, 0, 2), 512);
        due.is("the NUMBER of that one, not of who BROKE it", x.tells(1, 2, 0, 0), NONE);
        due.is("the NUMBER of that one by a text", x.tells(1, 2, 0, 2), 512);
        x.force(2);
        due.is("FORCE 0", x.tells(0, 0, 0, 3), 1);
        due.is("FORCE 9", x.tells(1, 0, 0, 3), 512);
        x.force(3);
        due.is("FORCES but 3", x.tells(0, 0, 0, 3), 1023 - 8);
        due.is("no FORCE", x.tells(1, 0, 0, 3), 0);
        due.is("NUMBERS, its FORCE is 3", x.tells(0, 0, 0, 2), 0);
        due.is("TEXTS by which 0 would be", x.tells(0, 0, 0, 6), 32);
        due.is("TEXTS by which 81 would be", x.tells(1, 0, 0, 6), 16);
        due.is("TEXTS of the other SEAM by which 0 would be", x.tells(0, 0, 1, 6), 8);
        x.set(2, 0, 0);
        due.is("TEXTS by which 0 would be, its NUMBER is 0", x.tells(0, 0, 0, 6), 2 + 32);
        due.is("FORCE stays", x.told(0, 4), 3);
        due.is("NUMBER stays", x.told(0, 2), 0);
        due.is("THE RULE stays", x.count(5), 3);
    }

    /** "TONES (of 0 .. 99: how many, the least)" */
    private static void tellsTones() {
        MendedWithTheWord x = world();
        Due.text(x, "says tone;slacks 0;holds 0;");
        Due.text(x, "says tone < 99;slacks 0;holds 0;");
        Due.text(x, "says 0 < tone;slacks 0;holds 0;");
        Due.text(x, "says tone = 100 or 0 - tone = 1;slacks 0;holds 0;");
        x.sheet(0, 0, 1);
        x.force(1);
        for (int tone : new int[] {0, 1, 98, 99}) {
            x.cell(0, 0, tone);
            due.is("one TONE, " + tone, x.tells(0, 0, 0, 4), 1);
            due.is("the least TONE, " + tone, x.tells(0, 0, 0, 5), tone);
        }
        x.cell(0, 0, 100);
        due.is("no TONE", x.tells(0, 0, 0, 4), 0);
        due.is("no least TONE", x.tells(0, 0, 0, 5), NONE);
        x.cell(0, 0, 0);
        x.force(2);
        due.is("99 alone: how many", x.tells(0, 0, 0, 4), 1);
        due.is("99 alone: the least", x.tells(0, 0, 0, 5), 99);
        x.cell(0, 0, 1);
        due.is("all but 99: how many", x.tells(0, 0, 0, 4), 99);
        due.is("all but 99: the least", x.tells(0, 0, 0, 5), 0);
        x.force(3);
        due.is("all but 0: how many", x.tells(0, 0, 0, 4), 99);
        due.is("all but 0: the least", x.tells(0, 0, 0, 5), 1);
        x.force(4);
        due.is("neither 100 nor -1 is a TONE: how many", x.tells(0, 0, 0, 4), 0);
        due.is("neither 100 nor -1 is a TONE: the least", x.tells(0, 0, 0, 5), NONE);
        due.is("TONE stays", x.told(0, 3), 20);
    }

    /** "KINDS (bits 0 .. 5)", "(were it BROKEN by that one)" */
    private static void tellsKinds() {
        MendedWithTheWord x = world();
        x.sheet(0, 0, 1);
        int[] bits = {0, 0, 0};
        x.cell(0, 0, 10);
        due.is("KINDS, half alone", x.tells(0, 0, 0, 1), 1 << PARTED);
        x.cell(0, 0, 27);
        due.is("KINDS, one of NUMBER 9", x.tells(0, 2, 0, 1), 0);
        x.cell(0, 0, 81);
        due.is("KINDS, 9 times 9", x.tells(0, 2, 0, 1), 1 << DOG);
        x.cell(0, 0, 29);
        due.is("KINDS, 9 more", x.tells(0, 2, 0, 1), 1 << LOVER);
        x.cell(0, 0, 20);
        due.is("KINDS, as the rule says", x.tells(0, 2, 0, 1), (1 << PERSON) + (1 << CHILD) + (1 << BABY));
        due.is("of who BROKE it", x.tells(0, 0, 0, 0), NONE);
        due.is("of another", x.tells(0, 1, 0, 0), 0);
        for (int one = 0; one < 3; one++) {
            bits[one] = x.told(one, 6);
        }
        due.is("KINDS stay", bits[0] + 10 * bits[1] + 100 * bits[2], 450);
        due.is("who BROKE it stays", x.told(0, 5), 0);
    }

    /** Promise 18: "in which TONE one SAYS a SEAM": as all is now, whatever was asked ahead. */
    private static void filmAsItIsNow() {
        MendedWithTheWord x = world();
        due.is("film, first of all", x.film(0, 1, 1, 2), 2);
        MendedWithTheWord y = world();
        y.set(2, 1, 9);
        due.is("film of another NUMBER, first of all", y.film(0, 1, 0, 40), 40);
        due.is("as it is SAID", x.tells(0, 1, 1, 0), NONE);
        due.is("as it is SAID: NUMBERS", x.tells(0, 1, 1, 2), 4);
        due.is("as it is SAID", y.tells(0, 1, 0, 0), NONE);
        due.is("as it is SAID: NUMBERS", y.tells(0, 1, 0, 2), 512);
        y.drawn(7);
        y.soon();
        Due.text(y, "says tone + day;slacks 99;holds 9;");
        y.force(1);
        due.is("film behind what would be", y.film(1, 0, 1, 9), 9);
        due.is("by the TONE that it is", y.tells(1, 0, 1, 5), 30);
        due.is("film of a LOVER's", y.person(LOVER, 5), 3);
        due.is("film of a LOVER's", y.film(2, 3, 1, 8), 8);
        due.is("on each seventh DAY", y.tells(2, 3, 1, 1), 1 << LOVER);
        due.is("on each seventh DAY, 5 more", y.tells(2, 3, 1, 2), 32);
    }

    /** "on DAYS 0 .. n less 1 (0 .. 40; bytes): n" */
    private static void filmOfNoneAndForty() {
        MendedWithTheWord x = world();
        x.set(0, 0, 50);
        x.sheet(1, 2, 5);
        due.is("film of none", x.film(1, 0, 0, 0), 0);
        due.is("film of none is of bytes", x.people(1, 0, 0, 0), 0);
        due.is("film of none has no items", x.cell(1, 0, 0), OUTSIDE);
        due.is("film of one", x.film(1, 0, 0, 1), 1);
        due.is("film of one has no second", x.cell(1, 1, 0), OUTSIDE);
        due.is("film of one: as it is SAID", x.tells(1, 0, 0, 0), NONE);
        due.is("film of forty", x.film(3, 0, 0, 40), 40);
        due.is("film of forty is of bytes", x.people(3, 0, 0, 0), 0);
        due.is("film of forty: as it is SAID", x.tells(3, 0, 0, 0), NONE);
        x.copy(3, 39, 1, 0, 1);
        x.set(0, 0, 39);
        Due.text(x, "says 59;slacks 0;holds 0;");
        x.force(1);
        due.is("film of forty: its last", x.tells(1, 0, 0, 0), NONE);
        due.is("film of forty has no more", x.cell(3, 40, 0), OUTSIDE);
        due.is("film of 41", x.film(3, 0, 0, 41), BAD);
        due.is("film of -1", x.film(3, 0, 0, -1), BAD);
        due.is("forty they stay", x.cell(3, 39, 0), 1);
        due.is("film of fewer", x.film(3, 1, 0, 3), 3);
        due.is("film of fewer has no more", x.cell(3, 3, 0), OUTSIDE);
        due.is("film of fewer: by another", x.tells(3, 1, 0, 0), NONE);
        due.is("film leaves who BROKE it", x.told(0, 5), 0);
    }

    /** "z being z * 1103515245 + 12345 (an int; SEED at first) anew for each" */
    private static void drawnWraps() {
        int[] seeds = {0, 1, -1, MAX, MIN, 1 << 30, 0x55555555, 0xAAAAAAAA, 4711, -4711};
        for (int seed : seeds) {
            int z = seed;
            int zeros = 0;
            for (int s = 0; s < 10; s++) {
                z = z * 1103515245 + 12345;
                int tone = (z >>> 9) % 100;
                due.is("TONE of SEAM " + s + " by " + seed, lastSays(tone, s).drawn(seed), zeros + 1);
                due.is("TONE of SEAM " + s + " by " + seed, lastSays(99 - tone, s).drawn(seed), zeros);
                zeros += tone == 0 ? 1 : 0;
            }
            MendedWithTheWord x = byText("says tone;slacks 0;holds 0;", PERSON, 0);
            for (int s = 1; s < 10; s++) {
                x.seam(67, 0, 0);
            }
            due.is("each TAKES, by " + seed, x.drawn(seed), 10);
        }
    }

    /** SEAM s is a PERSON's that SAYS a TONE; those ahead are a DOG's and TAKE in TONE 0 alone. */
    private static MendedWithTheWord lastSays(int tone, int s) {
        MendedWithTheWord x = byText("says " + tone + ";slacks 0;holds 0;", DOG, 0);
        for (int k = 1; k <= s; k++) {
            x.seam(67, 0, 0);
        }
        x.person(PERSON, 0);
        x.set(5, s, 1);
        return x;
    }

    /** Promise 20: "m seeds (1 .. 20)", "part 0 above, 1 below the line", "SEED and each 1 more (an int)" */
    private static void chanceAtItsBounds() {
        MendedWithTheWord x = new MendedWithTheWord();
        x.set(1, 0, 2);
        x.person(PERSON, 0);
        x.seam(1, 0, 9);
        x.set(0, 0, 30);
        due.is("m 0", x.chance(0, 0, 0), MendedWithTheWord.NO);
        due.is("m 21", x.chance(0, 21, 0), MendedWithTheWord.NO);
        due.is("m 22", x.chance(0, 22, 1), MendedWithTheWord.NO);
        due.is("m -1", x.chance(0, -1, 0), MendedWithTheWord.NO);
        due.is("m MAX", x.chance(0, MAX, 1), MendedWithTheWord.NO);
        due.is("m MIN", x.chance(0, MIN, 1), MendedWithTheWord.NO);
        due.is("part -1", x.chance(0, 1, -1), MendedWithTheWord.NO);
        due.is("part 2", x.chance(0, 1, 2), MendedWithTheWord.NO);
        due.is("part MAX", x.chance(0, 20, MAX), MendedWithTheWord.NO);
        due.is("part MIN", x.chance(0, 20, MIN), MendedWithTheWord.NO);
        for (int seed : new int[] {0, MIN, MAX, MAX - 1, MAX - 10, -1, -10}) {
            for (int m : new int[] {1, 2, 3, 4, 8, 12, 19, 20}) {
                int good = 0;
                for (int k = 0; k < m; k++) {
                    int tone = (((seed + k) * 1103515245 + 12345) >>> 9) % 100;
                    good += tone >= 50 - 12 && tone <= 50 + 12 ? 1 : 0;
                }
                long above = x.chance(seed, m, 0);
                long below = x.chance(seed, m, 1);
                due.is("chance of " + m + " from " + seed, above * m, below * good);
                due.is("in lowest terms, of " + m + " from " + seed, divisor((int) above, (int) below), 1);
            }
        }
        due.is("chance leaves TONES", x.told(0, 3), 0);
        due.is("chance mends none", x.count(2), 0);
    }

    private static void chanceInLowestTerms() {
        MendedWithTheWord never = byText("says 0;slacks 0;holds 0;", PERSON, 0);
        MendedWithTheWord always = byText("says 99;slacks 0;holds 0;", BABY, 0);
        always.set(1, 0, 2);
        for (int m = 1; m <= 20; m++) {
            due.is("never, above", never.chance(5, m, 0), 0);
            due.is("never, below", never.chance(5, m, 1), 1);
            due.is("always, above", always.chance(5, m, 0), 1);
            due.is("always, below", always.chance(5, m, 1), 1);
        }
        MendedWithTheWord x = byText("says 0;slacks 49;holds 0;", PERSON, 0);
        x.set(1, 0, 2);
        for (int m = 1; m <= 20; m++) {
            int good = 0;
            for (int k = 0; k < m; k++) {
                good += (((9 + k) * 1103515245 + 12345) >>> 9) % 100 <= 49 ? 1 : 0;
            }
            int divisor = divisor(good, m);
            due.is("of " + m + ", above", x.chance(9, m, 0), good / divisor);
            due.is("of " + m + ", below", x.chance(9, m, 1), m / divisor);
        }
    }

    private static int divisor(int a, int b) {
        for (int divisor = Math.max(a, b); divisor > 1; divisor--) {
            if (a % divisor == 0 && b % divisor == 0) {
                return divisor;
            }
        }
        return 1;
    }

    /** Promises 21, 22: "how many of PEOPLE", "STATE: there is none" */
    private static void imageOfNobodyAndOfAll() {
        MendedWithTheWord x = new MendedWithTheWord();
        due.is("back without an image", x.back(), STATE);
        due.is("back without an image again", x.back(), STATE);
        due.is("image of nobody", x.image(), 0);
        for (int one = 0; one < 6; one++) {
            x.person(PERSON, one);
        }
        for (int s = 0; s < 10; s++) {
            x.seam(1, 0, 0);
        }
        due.is("back to nobody", x.back(), 0);
        due.is("nobody is there", x.count(0), 0);
        due.is("no SEAM is there", x.count(1), 0);
        due.is("one of those is none", x.told(0, 6), BAD);
        due.is("six have room again", x.person(LOVER, 3), 0);
        due.is("ten have room again", x.seam(12, 0, 0), 0);
        for (int one = 1; one < 6; one++) {
            x.person(CHILD, one);
        }
        for (int s = 1; s < 10; s++) {
            x.seam(23, 5, 0);
        }
        due.is("image of six", x.image(), 6);
        due.is("back to six", x.back(), 6);
        due.is("a seventh", x.person(PERSON, 0), FULL);
        due.is("an eleventh", x.seam(1, 0, 0), FULL);
        due.is("the last of six", x.told(5, 2), 5);
        due.is("the last of ten", x.told(9, 7), 23);
    }

    /** "AN IMAGE keeps DAY, PIECES, NUMBERS, TONES, FORCES, who BROKE what, MENDED, THE RULE, how many of both" */
    private static void imageKeeps() {
        MendedWithTheWord x = world();
        Due.text(x, "says 1;slacks 2;holds 3;");
        x.call(0);
        x.image();
        int[][] sets = {{0, 0, 0, 99}, {1, 0, 4, 8}, {2, 2, 9, 0}, {3, 1, 30, 99}, {4, 1, 4, 9}, {5, 1, 0, 2}};
        for (int[] s : sets) {
            due.is("set " + s[0], x.set(s[0], s[1], s[3]), s[2]);
            due.is("back from set " + s[0], x.back(), 3);
            due.is("as it was: " + s[0], x.told(s[1], s[0]), s[2]);
        }
        due.is("force", x.force(1), 0);
        x.back();
        due.is("as it was: THE RULE", x.count(5), 0);
        x.set(0, 0, 10);
        x.set(3, 0, 30);
        due.is("call", x.call(0), 2);
        due.is("MENDED anew", x.told(0, 8), 19);
        x.back();
        due.is("as it was: TONE", x.told(0, 3), 20);
        due.is("as it was: MENDED till", x.told(0, 8), 9);
        x.set(3, 1, 20);
        due.is("call", x.call(0), 1);
        x.back();
        due.is("as it was: not MENDED", x.told(1, 8), NONE);
        due.is("as it was: one is MENDED", x.count(2), 1);
        x.person(DOG, 1);
        x.seam(67, 3, 0);
        x.back();
        due.is("those that came since go", x.count(0) * 10 + x.count(1), 32);
        due.is("they are none", x.told(3, 6), BAD);
        due.is("they are none", x.told(2, 7), BAD);
        due.is("TEXTS stay", x.count(3), 2);
    }

    private static void backAgain() {
        MendedWithTheWord x = world();
        x.image();
        x.sheet(0, 0, 2);
        Due.feed(x, "ab");
        x.set(0, 0, 5);
        due.is("back", x.back(), 3);
        due.is("SHEETS stay", x.cell(0, 1, 0), 1);
        due.is("THE TAPE stays", x.count(4), 2);
        x.set(0, 0, 7);
        due.is("back again", x.back(), 3);
        due.is("DAY as it was", x.told(0, 0), 0);
        x.set(0, 0, 8);
        due.is("image anew", x.image(), 3);
        x.set(0, 0, 9);
        due.is("back to the new one", x.back(), 3);
        due.is("DAY of the new one", x.told(0, 0), 8);
    }

    /** Promise 24: "a row of n of a sort, all 0"; "n above 40; -14" */
    private static void sheetsOfNoneAndForty() {
        MendedWithTheWord x = world();
        for (int sort = 0; sort < 3; sort++) {
            due.is("40 items", x.sheet(sort, sort, 40), 1);
            due.is("item 39", x.cell(sort, 39, 9), 1);
            due.is("item 40", x.cell(sort, 40, 9), OUTSIDE);
            due.is("item -1", x.cell(sort, -1, 9), OUTSIDE);
            due.is("its sort", x.people(sort, sort, 0, 0), 0);
            due.is("not another sort", x.people(sort, (sort + 1) % 3, 0, 0), OTHER_SORT);
            due.is("not another sort", x.people(sort, (sort + 2) % 3, 0, 0), OTHER_SORT);
            due.is("41 items", x.sheet(sort, sort, 41), BAD);
            due.is("-1 items", x.sheet(sort, sort, -1), -14);
            due.is("40 items stay", x.cell(sort, 39, 9), 1);
            due.is("40 items anew", x.sheet(sort, sort, 40), 1);
            x.set(2, 1, 0);
            due.is("all are 0", x.tells(sort, 1, 0, 0), NONE);
            due.is("no items", x.sheet(sort, sort, 0), 1);
            due.is("no item 0", x.cell(sort, 0, 9), OUTSIDE);
            due.is("its sort", x.people(sort, sort, 0, 0), 0);
            due.is("one item", x.sheet(sort, (sort + 1) % 3, 1), 1);
            due.is("item 0", x.cell(sort, 0, 9), 1);
            due.is("item 1", x.cell(sort, 1, 9), OUTSIDE);
            due.is("another sort", x.people(sort, (sort + 1) % 3, 0, 0), 0);
            due.is("no more the sort it was", x.people(sort, sort, 0, 0), OTHER_SORT);
        }
        due.is("the last SHEET", x.sheet(3, 0, 1), 1);
        due.is("one behind the last", x.sheet(4, 0, 1), BAD);
    }

    /** "or missing (as all are at first)" */
    private static void sheetIsMissing() {
        MendedWithTheWord x = world();
        for (int sheet = 0; sheet < 4; sheet++) {
            due.is("missing at first", x.cell(sheet, 0, 0), NOTHING);
            due.is("missing at first, for tells", x.tells(sheet, 0, 0, 0), NOTHING);
            due.is("missing at first, for people", x.people(sheet, 0, 0, 0), NOTHING);
            due.is("missing at first, for copy", x.copy(sheet, 0, sheet, 0, 0), NOTHING);
            due.is("missing again", x.sheet(sheet, -1, 0), 1);
            x.sheet(sheet, 1, 2);
            due.is("there", x.cell(sheet, 1, 0), 1);
            due.is("missing again", x.sheet(sheet, -1, 2), 1);
            due.is("missing again", x.cell(sheet, 1, 0), NOTHING);
            due.is("missing again, for people", x.people(sheet, 1, 0, 0), NOTHING);
        }
        due.is("one behind the last", x.sheet(4, -1, 0), BAD);
        due.is("one ahead of the first", x.sheet(-1, -1, 0), BAD);
    }

    /** Promise 25: "(of bytes, shorts its lowest 8, 16 bits)" */
    private static void cellsOfBytes() {
        int[][] held = {{0, 0}, {99, 99}, {100, NONE}, {127, NONE}, {128, NONE}, {255, NONE}, {256, 0}, {257, 1},
            {355, 99}, {356, NONE}, {-1, NONE}, {-128, NONE}, {-129, NONE}, {-156, NONE}, {-157, 99}, {-255, 1},
            {-256, 0}, {32768, 0}, {65536 + 5, 5}, {(1 << 24) + 7, 7}, {MAX, NONE}, {MIN, 0}, {MIN + 9, 9}};
        for (int[] h : held) {
            holdsAs(0, h[0], h[1]);
        }
    }

    private static void cellsOfShorts() {
        int[][] held = {{0, 0}, {99, 99}, {100, NONE}, {256, NONE}, {257, NONE}, {32767, NONE}, {32768, NONE},
            {65535, NONE}, {65536, 0}, {65537, 1}, {65635, 99}, {65636, NONE}, {-1, NONE}, {-65437, 99}, {-65535, 1},
            {-65536, 0}, {(1 << 24) + 7, 7}, {MAX, NONE}, {MIN, 0}, {MIN + 9, 9}};
        for (int[] h : held) {
            holdsAs(1, h[0], h[1]);
        }
    }

    private static void cellsOfInts() {
        int[][] held = {{0, 0}, {99, 99}, {100, NONE}, {256, NONE}, {65536, NONE}, {65537, NONE}, {1 << 24, NONE},
            {-1, NONE}, {MAX, NONE}, {MIN, NONE}, {MIN + 9, NONE}};
        for (int[] h : held) {
            holdsAs(2, h[0], h[1]);
        }
    }

    /** An item shows by which TONE tells() finds in it (0 .. 99, else NONE), and by whom people() brings by it. */
    private static void holdsAs(int sort, int v, int want) {
        MendedWithTheWord x = world();
        Due.text(x, "says tone;slacks 0;holds 0;");
        x.force(1);
        x.sheet(0, sort, 1);
        due.is("cell of sort " + sort + " with " + v, x.cell(0, 0, v), 1);
        due.is("sort " + sort + " holds of " + v, x.tells(0, 0, 0, 5), want);
        x.sheet(1, sort, 2);
        x.copy(0, 0, 1, 1, 1);
        due.is("sort " + sort + " brings by " + v, x.people(1, sort, 0, 1), want >= 0 && want <= 9 ? 1 : 0);
    }

    /** Promise 26: "-12 (also with n below 0)" */
    private static void copyAtTheEnds() {
        MendedWithTheWord x = new MendedWithTheWord();
        x.sheet(0, 0, 4);
        x.sheet(1, 0, 3);
        due.is("all of the other", x.copy(0, 0, 1, 0, 3), 3);
        due.is("all from the second on", x.copy(0, 1, 1, 0, 3), 3);
        due.is("more than the other has", x.copy(0, 0, 1, 0, 4), OUTSIDE);
        due.is("one behind the end of the first", x.copy(0, 2, 1, 0, 3), OUTSIDE);
        due.is("one behind the end of the other", x.copy(0, 0, 1, 1, 3), OUTSIDE);
        due.is("the last of both", x.copy(0, 3, 1, 2, 1), 1);
        due.is("behind the last of the first", x.copy(0, 4, 1, 2, 1), OUTSIDE);
        due.is("behind the last of the other", x.copy(0, 3, 1, 3, 1), OUTSIDE);
        due.is("none at both ends", x.copy(0, 4, 1, 3, 0), 0);
        due.is("none behind the end of the first", x.copy(0, 5, 1, 3, 0), OUTSIDE);
        due.is("none behind the end of the other", x.copy(0, 4, 1, 4, 0), OUTSIDE);
        due.is("none ahead of the first's", x.copy(0, -1, 1, 0, 0), OUTSIDE);
        due.is("none ahead of the other's", x.copy(0, 0, 1, -1, 0), OUTSIDE);
        due.is("n -1", x.copy(0, 1, 1, 1, -1), OUTSIDE);
        due.is("n MIN", x.copy(0, 0, 1, 0, MIN), OUTSIDE);
        due.is("n MAX", x.copy(0, 1, 1, 1, MAX), OUTSIDE);
        due.is("i MAX", x.copy(0, MAX, 1, 0, 1), OUTSIDE);
        due.is("j MAX", x.copy(0, 0, 1, MAX, 1), OUTSIDE);
        due.is("i MAX, n MAX", x.copy(0, MAX, 1, 0, MAX), OUTSIDE);
        due.is("j MAX, n MAX", x.copy(0, 0, 1, MAX, MAX), OUTSIDE);
        due.is("i MIN, n MIN", x.copy(0, MIN, 1, 0, MIN), OUTSIDE);
        x.sheet(2, 0, 0);
        due.is("none of none", x.copy(2, 0, 2, 0, 0), 0);
        due.is("one of none", x.copy(2, 0, 0, 0, 1), OUTSIDE);
        due.is("one to none", x.copy(0, 0, 2, 0, 1), OUTSIDE);
        x.sheet(3, 0, 40);
        x.sheet(2, 0, 40);
        due.is("forty", x.copy(3, 0, 2, 0, 40), 40);
        due.is("forty-one", x.copy(3, 0, 2, 0, 41), OUTSIDE);
        due.is("forty of one's own", x.copy(3, 0, 3, 0, 40), 40);
    }

    /** "(as they were)": also if they come to items of their own SHEET. */
    private static void copyAsTheyWere() {
        int[] onward = {9, 9, 18, 27, 36};
        int[] back = {18, 27, 36, 45, 45};
        MendedWithTheWord x = nines(2, 5);
        due.is("one onward", x.copy(0, 0, 0, 1, 4), 4);
        ninesAre(x, "one onward", onward);
        MendedWithTheWord y = nines(2, 5);
        due.is("one back", y.copy(0, 1, 0, 0, 4), 4);
        ninesAre(y, "one back", back);
        MendedWithTheWord z = nines(1, 5);
        due.is("where it is", z.copy(0, 0, 0, 0, 5), 5);
        ninesAre(z, "where it is", 9, 18, 27, 36, 45);
        z.sheet(1, 1, 3);
        due.is("two to another", z.copy(0, 3, 1, 1, 2), 2);
        due.is("what came", z.copy(1, 0, 0, 0, 3), 3);
        ninesAre(z, "two to another, and all of it back", 0, 36, 45, 36, 45);
    }

    private static MendedWithTheWord nines(int sort, int n) {
        MendedWithTheWord x = world();
        x.sheet(0, sort, n);
        for (int i = 0; i < n; i++) {
            x.cell(0, i, 9 + 9 * i);
        }
        return x;
    }

    private static void ninesAre(MendedWithTheWord x, String when, int... wants) {
        int sort = x.people(0, 1, 0, 0) == 0 ? 1 : 2;
        for (int i = 0; i < wants.length; i++) {
            x.sheet(3, sort, 1);
            x.copy(0, i, 3, 0, 1);
            due.is(when + ", item " + i, x.tells(3, 1, 0, 2), 1 << wants[i] / 9);
        }
    }

    /** Promise 27: "from one on, two by two (as of person()), n of them (0 .. 6)" */
    private static void peopleTwoByTwo() {
        MendedWithTheWord x = new MendedWithTheWord();
        row(x, 0, 0, 5, 1, 4, 2, 3, 3, 2, 4, 1, 5, 0, 6);
        due.is("none", x.people(0, 0, 0, 0), 0);
        due.is("nobody came", x.count(0), 0);
        due.is("six", x.people(0, 0, 0, 6), 6);
        for (int one = 0; one < 6; one++) {
            due.is("who came: KIND", x.told(one, 6), 5 - one);
            due.is("who came: NUMBER", x.told(one, 2), one + 1);
        }
        MendedWithTheWord y = new MendedWithTheWord();
        row(y, 0, 0, 5, 1, 4, 2, 3, 3, 2, 4, 1, 5, 0, 6);
        due.is("from the second item on", y.people(0, 0, 1, 5), 5);
        due.is("from the second item on: KIND", y.told(0, 6), 1);
        due.is("from the second item on: NUMBER", y.told(0, 2), 4);
        due.is("the last two items", y.people(0, 0, 10, 1), 1);
        due.is("the last two items: who came", y.told(5, 2), 6);
        MendedWithTheWord z = new MendedWithTheWord();
        z.sheet(0, 2, 40);
        due.is("the last two of forty", z.people(0, 2, 38, 1), 1);
        due.is("the last of forty", z.people(0, 2, 39, 1), OUTSIDE);
        due.is("behind forty", z.people(0, 2, 40, 1), OUTSIDE);
    }

    /** "how many came (others are left out)" */
    private static void peopleOthersAreLeftOut() {
        MendedWithTheWord x = new MendedWithTheWord();
        row(x, 0, 2, -1, 0, 6, 0, 0, -1, 0, 10, 5, 9, MAX, MIN);
        due.is("one of six", x.people(0, 2, 0, 6), 1);
        due.is("who came: KIND", x.told(0, 6), 5);
        due.is("who came: NUMBER", x.told(0, 2), 9);
        due.is("none else", x.count(0), 1);
        row(x, 0, 2, 0, 1, 0, 2, 0, 3, 0, 4, 0, 5, 0, 6);
        due.is("five have room", x.people(0, 2, 0, 6), 5);
        due.is("the last who came", x.told(5, 2), 5);
        due.is("nobody has room", x.people(0, 2, 0, 6), 0);
        due.is("six they are", x.count(0), 6);
    }

    /** "-12: what stood ahead came" */
    private static void peopleWhatStoodAheadCame() {
        MendedWithTheWord x = new MendedWithTheWord();
        row(x, 0, 0, 0, 1, 0, 2, 7, 7, 0, 4, 0);
        due.is("half of a fifth", x.people(0, 0, 0, 5), OUTSIDE);
        due.is("three came ahead", x.count(0), 3);
        due.is("the last who came", x.told(2, 2), 4);
        due.is("from -1 on", x.people(0, 0, -1, 2), OUTSIDE);
        due.is("from -2 on", x.people(0, 0, -2, 2), OUTSIDE);
        due.is("from MIN on", x.people(0, 0, MIN, 1), OUTSIDE);
        due.is("from MAX on", x.people(0, 0, MAX, 1), OUTSIDE);
        due.is("from MAX less 1 on", x.people(0, 0, MAX - 1, 6), OUTSIDE);
        due.is("from the last item on", x.people(0, 0, 8, 1), OUTSIDE);
        due.is("from behind the last item on", x.people(0, 0, 9, 1), OUTSIDE);
        due.is("nobody else came", x.count(0), 3);
        due.is("one and half of one", x.people(0, 0, 6, 2), OUTSIDE);
        due.is("one came", x.count(0), 4);
        due.is("none, of a place that is there", x.people(0, 0, 8, 0), 0);
        due.is("none, of a place that is not", x.people(0, 0, 10, 0), 0);
        MendedWithTheWord y = new MendedWithTheWord();
        y.sheet(0, 0, 0);
        due.is("none of no items", y.people(0, 0, 0, 0), 0);
        due.is("one of no items", y.people(0, 0, 0, 1), OUTSIDE);
        row(y, 0, 0, 0, 1, 0, 2, 0, 3, 0, 4, 0, 5, 0, 6);
        y.people(0, 0, 0, 6);
        due.is("-12, though nobody has room", y.people(0, 0, 2, 6), OUTSIDE);
    }

    private static void peopleOfEachSort() {
        for (int sort = 0; sort < 3; sort++) {
            for (int asked = 0; asked < 3; asked++) {
                MendedWithTheWord x = new MendedWithTheWord();
                row(x, 2, sort, 1, 4);
                due.is("of sort " + sort + " as " + asked, x.people(2, asked, 0, 1), sort == asked ? 1 : OTHER_SORT);
                due.is("who came", x.count(0), sort == asked ? 1 : 0);
            }
        }
        MendedWithTheWord x = new MendedWithTheWord();
        row(x, 0, 0, 256 + 1, 256 + 2);
        due.is("of bytes, their lowest bits", x.people(0, 0, 0, 1), 1);
        row(x, 0, 1, 256 + 1, 2);
        due.is("of shorts", x.people(0, 1, 0, 1), 0);
        row(x, 0, 1, 65536 + 1, 2);
        due.is("of shorts, their lowest bits", x.people(0, 1, 0, 1), 1);
        row(x, 0, 2, 65536 + 1, 2);
        due.is("of ints", x.people(0, 2, 0, 1), 0);
    }

    /** Promise 28: "one of KIND k (0 .. 5), or one under that one (also by others between): the NUMBER" */
    private static void takenAtTheBounds() {
        int[][] above = {{0, 0}, {0, 1}, {0, 2}, {0, 3}, {0, 4}, {0, 5}, {1, 1}, {1, 3}, {2, 2}, {2, 4}, {3, 3}, {4, 4},
            {5, 5}};
        for (int kind = 0; kind < 6; kind++) {
            MendedWithTheWord x = new MendedWithTheWord();
            x.person(kind, kind == 3 ? 0 : 9);
            for (int k = 0; k < 6; k++) {
                boolean under = false;
                for (int[] a : above) {
                    under |= a[0] == k && a[1] == kind;
                }
                due.is("KIND " + kind + " taken for " + k, x.taken(0, k), under ? kind == 3 ? 0 : 9 : OTHER_SORT);
            }
            due.is("taken for -1", x.taken(0, -1), BAD);
            due.is("taken for 6", x.taken(0, 6), BAD);
            due.is("taken for 7", x.taken(0, 7), BAD);
            due.is("taken for MAX", x.taken(0, MAX), BAD);
            due.is("taken for MIN", x.taken(0, MIN), BAD);
            due.is("another taken", x.taken(1, 0), NOTHING);
            due.is("one ahead of the first taken", x.taken(-1, 0), NOTHING);
            due.is("MAX taken", x.taken(MAX, 5), NOTHING);
            due.is("MIN taken", x.taken(MIN, 5), NOTHING);
        }
    }

    /** A PERSON, a DOG, a BABY; two SEAMS that the first BROKE. */
    private static MendedWithTheWord world() {
        MendedWithTheWord x = new MendedWithTheWord();
        x.person(PERSON, 1);
        x.person(DOG, 2);
        x.person(BABY, 9);
        x.seam(1, 0, 203);
        x.seam(12, 0, 304);
        return x;
    }

    /** One of a KIND with NUMBER 0, a SEAM of a TONE between PIECES 0 and 1, a TEXT that is THE RULE. */
    private static MendedWithTheWord byText(String text, int kind, int tone) {
        MendedWithTheWord x = new MendedWithTheWord();
        due.is("no FAULT in " + text, Due.text(x, text), 1);
        x.force(1);
        x.person(kind, 0);
        x.seam(1, 0, 10 * tone);
        return x;
    }

    private static MendedWithTheWord six(String text) {
        MendedWithTheWord x = new MendedWithTheWord();
        due.is("no FAULT in " + text, Due.text(x, text), 1);
        x.force(1);
        for (int one = 0; one < 6; one++) {
            x.person(PERSON, 0);
        }
        return x;
    }

    private static void row(MendedWithTheWord x, int sheet, int sort, int... items) {
        x.sheet(sheet, sort, items.length);
        for (int i = 0; i < items.length; i++) {
            x.cell(sheet, i, items[i]);
        }
    }

    private interface Asked {
        int of(int what);
    }

    private static void answers(String call, int n, Asked asked, int... wants) {
        for (int what = 0; what < n; what++) {
            due.is(call + " " + what, asked.of(what), wants[what]);
        }
        if (wants.length != n) {
            due.is(call + ": wants", wants.length, n);
        }
    }
}
