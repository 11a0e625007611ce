import java.util.ArrayList;
import java.util.List;
import java.util.Random;
import java.util.function.IntSupplier;
import java.util.function.LongSupplier;

/** Runs of 512 calls drawn by seeds, with good and with wild arguments: the class and the Model answer alike. */
public final class AgainstModelTest {
    private static final int RUNS = 600, CALLS = 512;
    private static final int[] WILD = {Integer.MIN_VALUE, Integer.MAX_VALUE, -1, 6, 8, 10, 40, 41, 99, 100, 160, 255,
        256, 1000, Integer.MAX_VALUE - 1, -2, 3, 78, 20, 21};
    private static final String[] WORDS = {"tone", "day", "number", "force", "mended", "seam", "says", "slacks",
        "holds", "or", "and", "not", "(", ")", ";", "+", "-", "*", "<", "=", "0", "1", "7", "20", "9999", "10000",
        "x", " ", "\n", "!", "dayday"};
    private static final String[] ONES = {"tone", "day", "number", "force", "mended", "seam", "1", "2", "5", "10", "30",
        "99", "9999"};
    private static final String[] JOINTS = {" or ", " and ", "<", "=", "+", "-", "*", " + ", " - "};

    private final Random random;
    private final MendedWithTheWord x = new MendedWithTheWord();
    private final Model model = new Model();
    private final List<String> calls = new ArrayList<>();
    private boolean wrong;

    private AgainstModelTest(long seed) {
        random = new Random(seed);
    }

    public static void main(String[] args) {
        int runs = args.length > 0 ? Integer.parseInt(args[0]) : RUNS;
        int bad = 0;
        for (int seed = 0; seed < runs && bad < 5; seed++) {
            bad += new AgainstModelTest(seed).run() ? 0 : 1;
        }
        System.out.println("AgainstModelTest: " + runs + " runs, " + bad + " wrong");
        if (bad != 0) {
            System.exit(1);
        }
    }

    private boolean run() {
        if (random.nextInt(4) != 0) {
            begin();
        }
        while (calls.size() < CALLS && !wrong) {
            if (random.nextInt(model.count(3) < 6 ? 25 : 400) == 0) {
                feedText();
            } else {
                one(random.nextInt(28));
            }
        }
        if (wrong) {
            System.out.println(String.join("; ", calls));
        }
        return !wrong;
    }

    /** Most runs begin with a vase that can be mended, else few ever would be whole. */
    private void begin() {
        int pieces = 1 + random.nextInt(5);
        check("set(1, 0, " + pieces + ")", () -> x.set(1, 0, pieces), () -> model.set(1, 0, pieces));
        for (int k = random.nextInt(6); k >= 0; k--) {
            one(0);
        }
        for (int k = random.nextInt(10); k >= 0; k--) {
            int a = random.nextInt(pieces);
            int b = a + 1 + random.nextInt(2);
            int one = random.nextInt(6);
            int toneForce = random.nextInt(3) == 0 ? random.nextInt(1000) : 150 + random.nextInt(250);
            int two = 10 * a + b;
            check("seam(" + two + ", " + one + ", " + toneForce + ")", () -> x.seam(two, one, toneForce),
                () -> model.seam(two, one, toneForce));
        }
    }

    private int pick(int from, int to) {
        if (random.nextInt(40) == 0) {
            return WILD[random.nextInt(WILD.length)];
        }
        if (random.nextInt(30) == 0) {
            return random.nextBoolean() ? from - 1 : to + 1;
        }
        return from + random.nextInt(to - from + 1);
    }

    private void check(String call, IntSupplier mine, IntSupplier due) {
        checkLong(call, () -> mine.getAsInt(), () -> {
            try {
                return due.getAsInt();
            } catch (Model.Refusal refusal) {
                return refusal.answer;
            }
        });
    }

    private void checkLong(String call, LongSupplier mine, LongSupplier due) {
        if (wrong || calls.size() >= CALLS) {
            return;
        }
        calls.add(call);
        long want = due.getAsLong();
        long got;
        try {
            got = mine.getAsLong();
        } catch (RuntimeException e) {
            calls.add("threw " + e);
            wrong = true;
            return;
        }
        if (got != want) {
            calls.add("answered " + got + ", due is " + want);
            wrong = true;
        }
    }

    private String e(int depth) {
        StringBuilder text = new StringBuilder();
        for (int k = random.nextInt(3); k >= 0; k--) {
            switch (random.nextInt(8)) {
                case 0: text.append("not "); break;
                case 1: text.append("-"); break;
                case 2: text.append(depth > 0 ? "(" + e(depth - 1) + ")" : "(1)"); break;
                default: break;
            }
            text.append(ONES[random.nextInt(ONES.length)]);
            text.append(k > 0 ? JOINTS[random.nextInt(JOINTS.length)] : "");
        }
        return text.toString();
    }

    private String randomText() {
        if (random.nextInt(4) == 0) {
            StringBuilder text = new StringBuilder(random.nextBoolean() ? "says " : "");
            for (int k = random.nextInt(12); k > 0; k--) {
                text.append(WORDS[random.nextInt(WORDS.length)]).append(random.nextBoolean() ? " " : "");
            }
            return text.toString();
        }
        String text = random.nextBoolean()
            ? "says " + e(2) + ";slacks " + e(1) + ";holds " + e(1) + ";"
            : "says 15+day+" + e(1) + ";slacks 9+" + e(1) + ";holds 3*" + e(1) + ";";
        if (random.nextInt(6) == 0 && !text.isEmpty()) {
            int at = random.nextInt(text.length());
            text = text.substring(0, at) + WORDS[random.nextInt(WORDS.length)] + text.substring(at + 1);
        }
        return text;
    }

    private void feedText() {
        String text = randomText();
        for (int i = 0; i < text.length(); i++) {
            int letter = text.charAt(i);
            check("feed(" + letter + ")", () -> x.feed(letter), () -> model.feed(letter));
        }
        check("text() of " + text, x::text, model::text);
    }

    private void one(int which) {
        int sheet = pick(0, random.nextInt(4));
        int one = pick(0, Math.max(0, model.count(0) - 1));
        int seam = pick(0, Math.max(0, model.count(1) - 1));
        int n = pick(0, 8);
        switch (which) {
            case 0: person(); break;
            case 1: seam(); break;
            case 2: case 3: case 4: set(); break;
            case 5: told(); break;
            case 6: two("force", pick(0, 5)); break;
            case 7: case 8: call(one); break;
            case 9: vase(pick(0, 5)); break;
            case 10: part(pick(0, 7)); break;
            case 11: check("when(" + one + ")", () -> x.when(one), () -> model.when(one)); break;
            case 12: fewest(pick(0, 1)); break;
            case 13: wanted(pick(0, 1)); break;
            case 14: check("soon()", x::soon, model::soon); break;
            case 15: check("gentler()", x::gentler, model::gentler); break;
            case 16: tells(sheet, one, seam, pick(0, 6)); break;
            case 17: filmAndTell(sheet, one, seam, pick(0, random.nextBoolean() ? 4 : 40)); break;
            case 18: film(sheet, one, seam, n); break;
            case 19: drawn(random.nextInt()); break;
            case 20: chance(random.nextInt(50), pick(1, 20), pick(0, 1)); break;
            case 21: imageOrBack(); break;
            case 22: count(pick(0, 5)); break;
            case 23: sheet(sheet, pick(-1, 2), n); break;
            case 24: cell(sheet, n, random.nextBoolean() ? random.nextInt() : pick(0, 9)); break;
            case 25: copy(sheet, pick(0, 5), pick(0, 3), pick(0, 5), pick(0, 5)); break;
            case 26: people(sheet, pick(0, 2), n, pick(0, 6)); break;
            default: taken(one, pick(0, 5)); break;
        }
    }

    private void person() {
        int kind = pick(0, 5);
        int number = pick(0, 9);
        check("person(" + kind + ", " + number + ")", () -> x.person(kind, number), () -> model.person(kind, number));
    }

    private void seam() {
        int a = pick(0, 4);
        int two = 10 * a + a + 1;
        int one = pick(0, 5);
        int toneForce = pick(0, 999);
        check("seam(" + two + ", " + one + ", " + toneForce + ")", () -> x.seam(two, one, toneForce),
            () -> model.seam(two, one, toneForce));
    }

    private void set() {
        int what = pick(0, 5);
        int of = pick(0, Math.max(0, model.count(what == 2 ? 0 : 1) - 1));
        int v = what == 0 ? pick(0, random.nextBoolean() ? 20 : 99) : what == 1 ? pick(1, 4) : what == 3 ? pick(15, 45)
            : pick(0, 9);
        check("set(" + what + ", " + of + ", " + v + ")", () -> x.set(what, of, v), () -> model.set(what, of, v));
    }

    private void told() {
        int what = pick(0, 12);
        int of = pick(0, Math.max(0, model.count(what == 2 || what == 6 ? 0 : 1) - 1));
        check("told(" + of + ", " + what + ")", () -> x.told(of, what), () -> model.told(of, what));
    }

    private void two(String name, int v) {
        check(name + "(" + v + ")", () -> x.force(v), () -> model.force(v));
    }

    private void call(int one) {
        check("call(" + one + ")", () -> x.call(one), () -> model.call(one));
    }

    private void vase(int what) {
        check("vase(" + what + ")", () -> x.vase(what), () -> model.vase(what));
    }

    private void part(int piece) {
        check("part(" + piece + ")", () -> x.part(piece), () -> model.part(piece));
    }

    private void fewest(int what) {
        check("fewest(" + what + ")", () -> x.fewest(what), () -> model.fewest(what));
    }

    private void wanted(int what) {
        check("wanted(" + what + ")", () -> x.wanted(what), () -> model.wanted(what));
    }

    private void tells(int sheet, int one, int seam, int what) {
        check("tells(" + sheet + ", " + one + ", " + seam + ", " + what + ")", () -> x.tells(sheet, one, seam, what),
            () -> model.tells(sheet, one, seam, what));
    }

    private void film(int sheet, int one, int seam, int n) {
        check("film(" + sheet + ", " + one + ", " + seam + ", " + n + ")", () -> x.film(sheet, one, seam, n),
            () -> model.film(sheet, one, seam, n));
    }

    /** What was filmed is told, as it was or with an item or what it was filmed by changed, else nothing would fit. */
    private void filmAndTell(int sheet, int one, int seam, int n) {
        film(sheet, one, seam, n);
        switch (random.nextInt(4)) {
            case 0: cell(sheet, pick(0, Math.max(0, Math.min(n, 40))), pick(0, 99)); break;
            case 1: set(); break;
            default: break;
        }
        for (int what = 0; what < 7; what++) {
            tells(sheet, one, seam, what);
        }
    }

    private void drawn(int seed) {
        check("drawn(" + seed + ")", () -> x.drawn(seed), () -> model.drawn(seed));
    }

    private void chance(int seed, int m, int part) {
        checkLong("chance(" + seed + ", " + m + ", " + part + ")", () -> x.chance(seed, m, part),
            () -> model.chance(seed, m, part));
    }

    private void imageOrBack() {
        if (random.nextInt(3) == 0) {
            check("image()", x::image, model::image);
        } else {
            check("back()", x::back, model::back);
        }
    }

    private void count(int what) {
        check("count(" + what + ")", () -> x.count(what), () -> model.count(what));
    }

    private void sheet(int sheet, int sort, int n) {
        check("sheet(" + sheet + ", " + sort + ", " + n + ")", () -> x.sheet(sheet, sort, n),
            () -> model.sheet(sheet, sort, n));
    }

    private void cell(int sheet, int i, int v) {
        check("cell(" + sheet + ", " + i + ", " + v + ")", () -> x.cell(sheet, i, v), () -> model.cell(sheet, i, v));
    }

    private void copy(int sheet, int i, int other, int j, int n) {
        check("copy(" + sheet + ", " + i + ", " + other + ", " + j + ", " + n + ")",
            () -> x.copy(sheet, i, other, j, n), () -> model.copy(sheet, i, other, j, n));
    }

    private void people(int sheet, int sort, int from, int n) {
        check("people(" + sheet + ", " + sort + ", " + from + ", " + n + ")", () -> x.people(sheet, sort, from, n),
            () -> model.people(sheet, sort, from, n));
    }

    private void taken(int one, int k) {
        check("taken(" + one + ", " + k + ")", () -> x.taken(one, k), () -> model.taken(one, k));
    }
}
