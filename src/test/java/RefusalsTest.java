import java.util.List;

/**
 * "Refusals, the first that the call's words name; they change nothing": each refusal that a promise names, alone and
 * with those that are named behind it. Each is asked of an object of its own that is then compared with one that was
 * not asked.
 */
public final class RefusalsTest {
    private static final int NONE = -1, BAD = -2, STATE = -3, FULL = -4;
    private static final int NOTHING = -11, OUTSIDE = -12, OTHER_SORT = -13, BELOW_ZERO = -14;
    private static final int MIN = Integer.MIN_VALUE, MAX = Integer.MAX_VALUE;
    private static final int PERSON = 0, LOVER = 1, DOG = 5;
    private static final long NO = MendedWithTheWord.NO;
    /** Ahead of the first, and behind what any call takes. */
    private static final int[] NEVER = {-1, MIN, MAX, 1 << 16, 161};

    private static final Due due = new Due("RefusalsTest");

    private interface World {
        MendedWithTheWord make();
    }

    private interface Call {
        long ask(MendedWithTheWord x);
    }

    private final World world;
    private final List<Integer> untouched;

    private RefusalsTest(World world) {
        this.world = world;
        untouched = Seen.all(world.make());
    }

    public static void main(String[] args) {
        seenTellsApart();
        RefusalsTest some = new RefusalsTest(RefusalsTest::some);
        set(some);
        person(some);
        seam(some);
        told(some);
        texts(some);
        whatIsWhole(some);
        whatWouldBeBest(some);
        tells(some);
        film(some);
        chance(some);
        count(some);
        sheet(some);
        cell(some);
        copy(some);
        people(some);
        taken(some);
        askingChangesNothing(some);
        back();
        fullOfPeople();
        fullOfSeams();
        fullTape();
        fullOfTexts();
        due.end();
    }

    private void is(String what, long want, Call call) {
        MendedWithTheWord x = world.make();
        due.is(what, call.ask(x), want);
        due.same(what + ": what is seen behind it", Seen.all(x), untouched);
    }

    private void stays(String what, Call call) {
        MendedWithTheWord x = world.make();
        call.ask(x);
        due.same(what + ": what is seen behind it", Seen.all(x), untouched);
    }

    /** Seen is worth no more than what it tells apart. */
    private static void seenTellsApart() {
        List<Integer> untouched = Seen.all(some());
        due.same("seen of like ones", Seen.all(some()), untouched);
        Call[] changes = {x -> x.set(0, 0, 4), x -> x.set(1, 0, 5), x -> x.set(2, 1, 3), x -> x.set(3, 2, 1),
            x -> x.set(4, 0, 4), x -> x.set(5, 0, 1), x -> x.person(0, 0), x -> x.seam(1, 0, 0), x -> x.feed(' '),
            x -> x.text(), x -> x.force(0), x -> x.call(0), x -> x.image(), x -> x.back(), x -> x.sheet(3, 0, 0),
            x -> x.sheet(2, -1, 0), x -> x.sheet(0, 1, 4), x -> x.sheet(0, 0, 3), x -> x.cell(0, 3, 9),
            x -> x.cell(1, 0, 9), x -> x.copy(0, 0, 0, 1, 1), x -> x.film(0, 0, 0, 4), x -> x.people(1, 1, 0, 1)};
        for (int k = 0; k < changes.length; k++) {
            MendedWithTheWord x = some();
            changes[k].ask(x);
            due.same("seen of change " + k, Seen.all(x).equals(untouched), false);
        }
    }

    // Promise 2: "BAD"

    private static void set(RefusalsTest some) {
        for (int what : new int[] {-1, 6, 7, 8, 12, MIN, MAX}) {
            some.is("set what " + what, BAD, x -> x.set(what, 0, 1));
        }
        int[][] bounds = {{0, 0, 99}, {1, 1, 8}, {2, 0, 9}, {3, 0, 99}, {4, 0, 9}, {5, 0, 2}};
        for (int[] b : bounds) {
            for (int v : new int[] {b[1] - 1, b[2] + 1, b[2] + 2, MIN, MAX}) {
                some.is("set " + b[0] + " to " + v, BAD, x -> x.set(b[0], 0, v));
            }
        }
        for (int of : new int[] {-1, 3, 4, MIN, MAX}) {
            for (int what = 2; what < 6; what++) {
                int asked = what;
                some.is("set " + what + " of " + of, BAD, x -> x.set(asked, of, 1));
            }
        }
    }

    // Promises 3, 4: "BAD; FULL"

    private static void person(RefusalsTest some) {
        for (int bad : new int[] {-1, 6, 7, MIN, MAX}) {
            some.is("person of KIND " + bad, BAD, x -> x.person(bad, 0));
        }
        for (int bad : new int[] {-1, 10, 11, MIN, MAX}) {
            some.is("person of NUMBER " + bad, BAD, x -> x.person(0, bad));
        }
    }

    private static void seam(RefusalsTest some) {
        for (int bad : new int[] {0, 8, 9, 10, 11, 21, 70, 76, 77, 78, 79, 89, 99, 100, 101, 112, -1, -12, MIN, MAX}) {
            some.is("seam between " + bad, BAD, x -> x.seam(bad, 0, 0));
        }
        for (int bad : new int[] {-1, 3, 4, MIN, MAX}) {
            some.is("seam that " + bad + " BROKE", BAD, x -> x.seam(1, bad, 0));
        }
        for (int bad : new int[] {-1, -10, 1000, 1001, MIN, MAX}) {
            some.is("seam in TONE and FORCE " + bad, BAD, x -> x.seam(1, 0, bad));
        }
    }

    // Promise 5: "BAD"

    private static void told(RefusalsTest some) {
        for (int what : new int[] {-1, 13, 14, MIN, MAX}) {
            some.is("told what " + what, BAD, x -> x.told(0, what));
        }
        for (int of : new int[] {-1, 3, 4, MIN, MAX}) {
            for (int what = 2; what < 13; what++) {
                int asked = what;
                some.is("told " + what + " of " + of, BAD, x -> x.told(of, asked));
            }
        }
    }

    // Promises 6, 8: "BAD"

    private static void texts(RefusalsTest some) {
        for (int bad : new int[] {-1, 256, 257, MIN, MAX}) {
            some.is("feed " + bad, BAD, x -> x.feed(bad));
        }
        for (int bad : new int[] {-1, 2, 3, MIN, MAX}) {
            some.is("force " + bad, BAD, x -> x.force(bad));
        }
    }

    // Promises 9 to 11: "BAD"

    private static void whatIsWhole(RefusalsTest some) {
        for (int bad : new int[] {-1, 3, 4, 32, 33, MIN, MAX}) {
            some.is("call " + bad, BAD, x -> x.call(bad));
        }
        for (int bad : new int[] {-1, 6, 7, MIN, MAX}) {
            some.is("vase " + bad, BAD, x -> x.vase(bad));
        }
        for (int bad : new int[] {-1, 4, 5, 7, 8, 32, MIN, MAX}) {
            some.is("part " + bad, BAD, x -> x.part(bad));
        }
    }

    // Promises 12 to 14: "BAD"

    private static void whatWouldBeBest(RefusalsTest some) {
        for (int bad : new int[] {-1, 3, 4, MIN, MAX}) {
            some.is("when " + bad, BAD, x -> x.when(bad));
        }
        for (int bad : new int[] {-1, 2, 3, MIN, MAX}) {
            some.is("fewest " + bad, BAD, x -> x.fewest(bad));
            some.is("wanted " + bad, BAD, x -> x.wanted(bad));
        }
    }

    // Promise 17: "BAD: SHEET, no such, what; -11"

    private static void tells(RefusalsTest some) {
        some.is("tells of a missing SHEET", NOTHING, x -> x.tells(3, 0, 0, 0));
        for (int what = 0; what < 7; what++) {
            int asked = what;
            some.is("tells " + what + " of a missing SHEET", NOTHING, x -> x.tells(3, 2, 2, asked));
        }
        for (int sheet : new int[] {0, 3}) {
            String of = sheet == 3 ? " and a missing SHEET" : "";
            for (int bad : new int[] {-1, 3, 4, MIN, MAX}) {
                some.is("tells of one " + bad + of, BAD, x -> x.tells(sheet, bad, 0, 0));
                some.is("tells of SEAM " + bad + of, BAD, x -> x.tells(sheet, 0, bad, 0));
            }
            for (int bad : new int[] {-1, 7, 8, MIN, MAX}) {
                some.is("tells what " + bad + of, BAD, x -> x.tells(sheet, 0, 0, bad));
            }
        }
        for (int bad : new int[] {-1, 4, 5, MIN, MAX}) {
            some.is("tells of SHEET " + bad, BAD, x -> x.tells(bad, 0, 0, 0));
        }
    }

    // Promise 18: "BAD"

    private static void film(RefusalsTest some) {
        for (int sheet : new int[] {0, 3}) {
            for (int bad : new int[] {-1, 3, 4, MIN, MAX}) {
                some.is("film on SHEET " + sheet + " of one " + bad, BAD, x -> x.film(sheet, bad, 0, 2));
                some.is("film on SHEET " + sheet + " of SEAM " + bad, BAD, x -> x.film(sheet, 0, bad, 2));
            }
            for (int bad : new int[] {-1, 41, 42, MIN, MAX}) {
                some.is("film on SHEET " + sheet + " of so many: " + bad, BAD, x -> x.film(sheet, 0, 0, bad));
            }
        }
        for (int bad : new int[] {-1, 4, 5, MIN, MAX}) {
            some.is("film on SHEET " + bad, BAD, x -> x.film(bad, 0, 0, 2));
        }
    }

    // Promise 20: "NO: m, part"

    private static void chance(RefusalsTest some) {
        for (int bad : new int[] {-1, 0, 21, 22, MIN, MAX}) {
            some.is("chance of m " + bad, NO, x -> x.chance(0, bad, 0));
            some.is("chance of m " + bad, NO, x -> x.chance(0, bad, 1));
        }
        for (int bad : new int[] {-1, 2, 3, MIN, MAX}) {
            some.is("chance of part " + bad, NO, x -> x.chance(0, 1, bad));
            some.is("chance of part " + bad, NO, x -> x.chance(0, 20, bad));
        }
    }

    // Promise 23: "BAD"

    private static void count(RefusalsTest some) {
        for (int bad : new int[] {-1, 6, 7, MIN, MAX}) {
            some.is("count " + bad, BAD, x -> x.count(bad));
        }
    }

    // Promise 24: "BAD: no such SHEET, sort; n above 40; -14"

    private static void sheet(RefusalsTest some) {
        for (int bad : new int[] {-1, 4, 5, MIN, MAX}) {
            some.is("sheet " + bad, BAD, x -> x.sheet(bad, 0, 1));
            some.is("sheet " + bad + " missing", BAD, x -> x.sheet(bad, -1, 1));
            some.is("sheet " + bad + " ahead of -14", BAD, x -> x.sheet(bad, 0, -1));
        }
        for (int sheet : new int[] {0, 3}) {
            for (int bad : new int[] {-2, 3, 4, MIN, MAX}) {
                some.is("sheet " + sheet + " of sort " + bad, BAD, x -> x.sheet(sheet, bad, 1));
                some.is("sheet " + sheet + " of sort " + bad + " ahead of -14", BAD, x -> x.sheet(sheet, bad, -1));
            }
            for (int sort = 0; sort < 3; sort++) {
                int its = sort;
                for (int bad : new int[] {41, 42, MAX}) {
                    some.is("sheet " + sheet + " of " + bad, BAD, x -> x.sheet(sheet, its, bad));
                }
                for (int bad : new int[] {-1, -2, MIN}) {
                    some.is("sheet " + sheet + " of " + bad, BELOW_ZERO, x -> x.sheet(sheet, its, bad));
                }
            }
        }
    }

    // Promise 25: "BAD: no such SHEET; -11; -12"

    private static void cell(RefusalsTest some) {
        for (int bad : new int[] {-1, 4, 5, MIN, MAX}) {
            some.is("cell of SHEET " + bad, BAD, x -> x.cell(bad, 0, 9));
            some.is("cell of SHEET " + bad + " ahead of -12", BAD, x -> x.cell(bad, -1, 9));
        }
        for (int i : new int[] {0, -1, 40, MIN, MAX}) {
            some.is("cell " + i + " of a missing SHEET", NOTHING, x -> x.cell(3, i, 9));
        }
        for (int i : new int[] {-1, 4, 5, 39, 40, MIN, MAX}) {
            some.is("cell " + i + " of 4 bytes", OUTSIDE, x -> x.cell(0, i, 9));
        }
        for (int i : new int[] {-1, 2, 3, MIN, MAX}) {
            some.is("cell " + i + " of 2 shorts", OUTSIDE, x -> x.cell(1, i, 9));
        }
        for (int i : new int[] {-1, 0, 1, MIN, MAX}) {
            some.is("cell " + i + " of no ints", OUTSIDE, x -> x.cell(2, i, 9));
        }
    }

    // Promise 26: "BAD: no such SHEET; -11; -13: they are of unlike sorts; -12 (also with n below 0)"

    private static void copy(RefusalsTest some) {
        for (int bad : new int[] {-1, 4, 5, MIN, MAX}) {
            some.is("copy from SHEET " + bad, BAD, x -> x.copy(bad, 0, 0, 0, 1));
            some.is("copy to SHEET " + bad, BAD, x -> x.copy(0, 0, bad, 0, 1));
            some.is("copy from SHEET " + bad + " ahead of -11", BAD, x -> x.copy(bad, 0, 3, 0, 1));
            some.is("copy to SHEET " + bad + " ahead of -11", BAD, x -> x.copy(3, 0, bad, 0, 1));
            some.is("copy from SHEET " + bad + " ahead of -12", BAD, x -> x.copy(bad, -1, 0, -1, -1));
            some.is("copy to SHEET " + bad + " ahead of -12", BAD, x -> x.copy(0, -1, bad, -1, -1));
        }
        some.is("copy from a missing SHEET", NOTHING, x -> x.copy(3, 0, 0, 0, 0));
        some.is("copy to a missing SHEET", NOTHING, x -> x.copy(0, 0, 3, 0, 0));
        some.is("copy from a missing SHEET to itself", NOTHING, x -> x.copy(3, 0, 3, 0, 0));
        for (int n : new int[] {-1, 1, 41, MIN, MAX}) {
            some.is("copy from a missing SHEET ahead of -12", NOTHING, x -> x.copy(3, 0, 0, 0, n));
            some.is("copy to a missing SHEET ahead of -12", NOTHING, x -> x.copy(0, -1, 3, -1, n));
            some.is("copy to another sort ahead of -12", OTHER_SORT, x -> x.copy(0, -1, 1, -1, n));
            some.is("copy of no ints to another sort", OTHER_SORT, x -> x.copy(2, 0, 0, 0, n));
        }
        some.is("copy of bytes to shorts", OTHER_SORT, x -> x.copy(0, 0, 1, 0, 1));
        some.is("copy of shorts to bytes", OTHER_SORT, x -> x.copy(1, 0, 0, 0, 1));
        some.is("copy of bytes to ints", OTHER_SORT, x -> x.copy(0, 0, 2, 0, 0));
        some.is("copy of ints to shorts", OTHER_SORT, x -> x.copy(2, 0, 1, 0, 0));
        int[][] outside = {{-1, 0, 1}, {0, -1, 1}, {0, 0, -1}, {0, 0, 5}, {1, 0, 4}, {0, 1, 4}, {4, 0, 1}, {0, 4, 1},
            {5, 0, 0}, {0, 5, 0}, {-1, 0, 0}, {0, -1, 0}, {MAX, 0, 1}, {0, MAX, 1}, {0, 0, MAX}, {1, 1, MAX},
            {MAX, MAX, MAX}, {MIN, 0, 1}, {0, MIN, 1}, {0, 0, MIN}, {MIN, MIN, MIN}, {2, 2, -2}, {-1, -1, 2}};
        for (int[] o : outside) {
            some.is("copy from " + o[0] + " to " + o[1] + ", " + o[2], OUTSIDE, x -> x.copy(0, o[0], 0, o[1], o[2]));
        }
    }

    // Promise 27: "BAD: no such SHEET, sort, n; -13; -11; -12"

    private static void people(RefusalsTest some) {
        for (int bad : new int[] {-1, 4, 5, MIN, MAX}) {
            some.is("people by SHEET " + bad, BAD, x -> x.people(bad, 0, 0, 1));
            some.is("people by SHEET " + bad + " ahead of -12", BAD, x -> x.people(bad, 0, -1, 1));
        }
        for (int sheet : new int[] {0, 3}) {
            for (int bad : new int[] {-1, 3, 4, MIN, MAX}) {
                some.is("people of sort " + bad + " by SHEET " + sheet, BAD, x -> x.people(sheet, bad, 0, 1));
                some.is("people of sort " + bad + " ahead of -12", BAD, x -> x.people(sheet, bad, -1, 1));
            }
            for (int bad : new int[] {-1, 7, 8, MIN, MAX}) {
                some.is("people, n " + bad + " by SHEET " + sheet, BAD, x -> x.people(sheet, 0, 0, bad));
                some.is("people, n " + bad + " ahead of -13", BAD, x -> x.people(sheet, 1, 0, bad));
                some.is("people, n " + bad + " ahead of -12", BAD, x -> x.people(sheet, 0, 99, bad));
            }
        }
        for (int n = 0; n <= 6; n++) {
            int many = n;
            some.is("people by bytes as shorts", OTHER_SORT, x -> x.people(0, 1, 0, many));
            some.is("people by bytes as ints, ahead of -12", OTHER_SORT, x -> x.people(0, 2, 99, many));
            some.is("people by shorts as bytes", OTHER_SORT, x -> x.people(1, 0, 0, many));
            some.is("people by shorts as ints, ahead of -12", OTHER_SORT, x -> x.people(1, 2, -1, many));
            some.is("people by no ints as shorts", OTHER_SORT, x -> x.people(2, 1, 0, many));
            some.is("people by a missing SHEET", NOTHING, x -> x.people(3, 0, 0, many));
            some.is("people by a missing SHEET, ahead of -12", NOTHING, x -> x.people(3, 2, -1, many));
        }
        for (int from : new int[] {-1, -2, 3, 4, 5, 39, 40, MIN, MAX, MAX - 1}) {
            some.is("people from " + from + " of 4 bytes", OUTSIDE, x -> x.people(0, 0, from, 1));
            some.is("people from " + from + " of 4 bytes", OUTSIDE, x -> x.people(0, 0, from, 6));
        }
        some.is("people by no ints", OUTSIDE, x -> x.people(2, 2, 0, 1));
        some.is("people, who is left out and whom it has no place for", OUTSIDE, x -> x.people(0, 0, 0, 3));
    }

    // Promise 28: "BAD: k; -11: none such; -13"

    private static void taken(RefusalsTest some) {
        for (int bad : new int[] {-1, 6, 7, MIN, MAX}) {
            some.is("taken for " + bad, BAD, x -> x.taken(0, bad));
            some.is("taken for " + bad + " ahead of -11", BAD, x -> x.taken(3, bad));
            some.is("taken for " + bad + " ahead of -11", BAD, x -> x.taken(-1, bad));
        }
        for (int none : new int[] {-1, 3, 4, 6, MIN, MAX}) {
            for (int k = 0; k < 6; k++) {
                int kind = k;
                some.is("taken, none such, for " + k, NOTHING, x -> x.taken(none, kind));
            }
        }
        some.is("a PERSON taken for a LOVER", OTHER_SORT, x -> x.taken(0, LOVER));
        some.is("a DOG taken for a LOVER", OTHER_SORT, x -> x.taken(1, LOVER));
        some.is("a LOVER taken for a DOG", OTHER_SORT, x -> x.taken(2, DOG));
    }

    /** What only asks, and what sets a thing to what it is, leaves all as it is. */
    private static void askingChangesNothing(RefusalsTest some) {
        for (int k = 0; k < 13; k++) {
            int what = k;
            some.stays("told " + what, x -> x.told(0, what));
            some.stays("vase " + what, x -> x.vase(what));
            some.stays("count " + what, x -> x.count(what));
            some.stays("part " + what, x -> x.part(what));
            some.stays("tells " + what, x -> x.tells(0, 2, 0, what));
            some.stays("tells " + what + " of no items", x -> x.tells(2, 0, 2, what));
            some.stays("when " + what, x -> x.when(what));
            some.stays("taken " + what, x -> x.taken(0, what));
            some.stays("drawn " + what, x -> x.drawn(what));
            some.stays("fewest " + what, x -> x.fewest(what));
            some.stays("wanted " + what, x -> x.wanted(what));
            some.stays("chance " + what, x -> x.chance(what, 20, 0));
        }
        some.stays("soon", MendedWithTheWord::soon);
        some.stays("gentler", MendedWithTheWord::gentler);
        some.stays("set DAY to what it is", x -> x.set(0, 0, x.told(0, 0)));
        some.stays("set who BROKE it to who did", x -> x.set(5, 1, x.told(1, 5)));
        some.stays("force of THE RULE", x -> x.force(x.count(5)));
        some.stays("sheet that is missing", x -> x.sheet(3, -1, 9));
        some.stays("copy of none", x -> x.copy(0, 4, 0, 0, 0));
        some.stays("people of none", x -> x.people(0, 0, 0, 0));
        RefusalsTest whole = new RefusalsTest(RefusalsTest::whole);
        whole.stays("image of what it is", MendedWithTheWord::image);
        whole.stays("back to what it is", MendedWithTheWord::back);
        whole.stays("call of one whose SEAMS hold", x -> x.call(0));
        whole.stays("fewest of a vase that is WHOLE", x -> x.fewest(0));
        whole.stays("soon of a vase that is WHOLE", MendedWithTheWord::soon);
    }

    private static MendedWithTheWord whole() {
        MendedWithTheWord x = young();
        x.set(1, 0, 2);
        x.set(3, 0, 27);
        x.set(0, 0, 7);
        x.call(0);
        x.image();
        return x;
    }

    // Promise 22: "STATE: there is none"

    private static void back() {
        RefusalsTest young = new RefusalsTest(RefusalsTest::young);
        young.is("back without an image", STATE, MendedWithTheWord::back);
        young.is("back without an image, twice", STATE, x -> Math.max(x.back(), x.back()));
    }

    private static void fullOfPeople() {
        RefusalsTest full = new RefusalsTest(() -> {
            MendedWithTheWord x = some();
            for (int one = 3; one < 6; one++) {
                x.person(one, one);
            }
            return x;
        });
        full.is("a seventh", FULL, x -> x.person(0, 0));
        full.is("a seventh of another KIND", FULL, x -> x.person(5, 9));
        for (int bad : NEVER) {
            full.is("BAD KIND ahead of FULL", BAD, x -> x.person(bad, 0));
            full.is("BAD NUMBER ahead of FULL", BAD, x -> x.person(0, bad));
        }
        full.is("BAD KIND ahead of FULL", BAD, x -> x.person(6, 0));
        full.is("BAD NUMBER ahead of FULL", BAD, x -> x.person(0, 10));
        full.is("who is left out, as nobody has room", 0, x -> x.people(1, 1, 0, 1));
        full.is("a seventh BROKE it", BAD, x -> x.set(5, 0, 6));
        full.is("a seventh BROKE it", BAD, x -> x.seam(1, 6, 0));
        full.is("a seventh is called", BAD, x -> x.call(6));
    }

    private static void fullOfSeams() {
        RefusalsTest full = new RefusalsTest(() -> {
            MendedWithTheWord x = some();
            for (int s = 3; s < 10; s++) {
                x.seam(67, 1, 10 * s);
            }
            return x;
        });
        full.is("an eleventh", FULL, x -> x.seam(1, 0, 0));
        full.is("an eleventh", FULL, x -> x.seam(67, 2, 999));
        for (int bad : NEVER) {
            full.is("BAD PIECES ahead of FULL", BAD, x -> x.seam(bad, 0, 0));
            full.is("BAD one ahead of FULL", BAD, x -> x.seam(1, bad, 0));
        }
        full.is("BAD PIECES ahead of FULL", BAD, x -> x.seam(10, 0, 0));
        full.is("BAD one ahead of FULL", BAD, x -> x.seam(1, 3, 0));
        full.is("BAD TONE ahead of FULL", BAD, x -> x.seam(1, 0, 1000));
        full.is("BAD TONE ahead of FULL", BAD, x -> x.seam(1, 0, -1));
        full.is("an eleventh is told of", BAD, x -> x.told(10, 3));
        full.is("an eleventh is set", BAD, x -> x.set(3, 10, 0));
        full.is("an eleventh is filmed", BAD, x -> x.film(0, 0, 10, 1));
    }

    private static void fullTape() {
        RefusalsTest full = new RefusalsTest(() -> {
            MendedWithTheWord x = young();
            Due.feed(x, "says 7;slacks 8;holds 9;");
            while (x.count(4) < 160) {
                x.feed('\n');
            }
            return x;
        });
        full.is("a 161st byte", FULL, x -> x.feed(32));
        full.is("a 161st byte", FULL, x -> x.feed(255));
        full.is("a 161st byte", FULL, x -> x.feed(0));
        for (int bad : new int[] {-1, 256, MIN, MAX}) {
            full.is("BAD byte ahead of FULL", BAD, x -> x.feed(bad));
        }
    }

    /** "FULL (ahead of all): no TEXT more has room (THE TAPE stays)" */
    private static void fullOfTexts() {
        for (String tape : new String[] {"", "x", "says", "says 1;slacks 1;holds 1;"}) {
            RefusalsTest full = new RefusalsTest(() -> {
                MendedWithTheWord x = some();
                x.text();
                while (x.count(3) < 6) {
                    Due.text(x, "says7;slacks8;holds9;");
                }
                Due.feed(x, tape);
                return x;
            });
            full.is("a seventh TEXT of \"" + tape + "\"", FULL, MendedWithTheWord::text);
            full.is("force of a seventh", BAD, x -> x.force(6));
            MendedWithTheWord x = full.world.make();
            x.text();
            due.is("THE TAPE stays", x.count(4), tape.length());
        }
    }

    /** So few calls that THE TAPE can be filled, and all be seen, within the 512 that an object is used for. */
    private static MendedWithTheWord young() {
        MendedWithTheWord x = new MendedWithTheWord();
        x.person(PERSON, 3);
        x.person(DOG, 4);
        x.seam(1, 0, 201);
        x.call(0);
        x.set(0, 0, 7);
        x.set(1, 0, 6);
        return x;
    }

    /**
     * Three PEOPLE, three SEAMS, one mended, an image of another DAY, two TEXTS, some bytes on THE TAPE, SHEETS of each
     * sort and a missing one; no two items of SHEET 0 bring a person, those of SHEET 1 do.
     */
    private static MendedWithTheWord some() {
        MendedWithTheWord x = new MendedWithTheWord();
        Due.text(x, "says 18+day;slacks 2;holds 1;");
        x.person(PERSON, 1);
        x.person(DOG, 2);
        x.seam(1, 0, 203);
        x.seam(12, 1, 187);
        x.call(1);
        x.image();
        x.set(0, 0, 3);
        x.person(LOVER, 4);
        x.seam(23, 2, 265);
        x.force(1);
        Due.feed(x, "says");
        x.sheet(0, 0, 4);
        x.sheet(1, 1, 2);
        x.sheet(2, 2, 0);
        int[] bytes = {9, 27, 18, 0};
        for (int i = 0; i < 4; i++) {
            x.cell(0, i, bytes[i]);
        }
        x.cell(1, 1, 9);
        return x;
    }
}
