import java.util.ArrayList;
import java.util.Arrays;
import java.util.List;
import java.util.function.IntPredicate;
import java.util.stream.IntStream;

/**
 * The document once more, as it is read and without a thought of room: people are objects of classes, texts are trees,
 * what would be is tried on copies. It answers by throwing a Refusal where the document refuses.
 */
final class Model {
    static final class Refusal extends RuntimeException {
        private static final long serialVersionUID = 1;
        final int answer;

        Refusal(int answer) {
            super(null, null, false, false);
            this.answer = answer;
        }
    }

    static void unless(boolean good, int answer) {
        if (!good) {
            throw new Refusal(answer);
        }
    }

    // ---- kinds

    private static int bound(int v) {
        return v < 0 ? 0 : Math.min(v, 99);
    }

    static class Person {
        int says(int number, int d, int v) {
            return bound(v);
        }

        int slack(int number, int f, int v) {
            return bound(v);
        }

        int holds(int v) {
            return bound(v);
        }
    }

    static class Lover extends Person {
        @Override int says(int number, int d, int v) {
            int person = super.says(number, d, v);
            return d % 7 == 0 ? bound(person + number) : person;
        }

        @Override int slack(int number, int f, int v) {
            return bound(v + f);
        }

        @Override int holds(int v) {
            return bound(2 * super.holds(v));
        }
    }

    static class Child extends Person {
        @Override int says(int number, int d, int v) {
            return bound(super.says(number, d, v) - d);
        }

        @Override int slack(int number, int f, int v) {
            return bound(super.slack(number, f, v) + number);
        }

        @Override int holds(int v) {
            return bound(super.holds(v) - 1);
        }
    }

    static final class Parted extends Lover {
        @Override int says(int number, int d, int v) {
            return super.says(number, d, v) / 2;
        }

        @Override int slack(int number, int f, int v) {
            return f > 5 ? super.slack(number, f, v) / 2 : super.slack(number, f, v);
        }
    }

    static final class Baby extends Child {
        @Override int says(int number, int d, int v) {
            return d % 2 == 1 ? 0 : super.says(number, d, v);
        }

        @Override int slack(int number, int f, int v) {
            return 99;
        }

        @Override int holds(int v) {
            return 0;
        }
    }

    static final class Dog extends Person {
        @Override int says(int number, int d, int v) {
            return 9 * number;
        }

        @Override int slack(int number, int f, int v) {
            return f;
        }
    }

    private static final List<Person> KINDS =
        List.of(new Person(), new Lover(), new Child(), new Parted(), new Baby(), new Dog());

    // ---- texts

    interface E {
        int of(int[] names);
    }

    static final class Reading {
        private static final List<String> NAMES = List.of("tone", "day", "number", "force", "mended", "seam");
        private static final List<String> KEYS = List.of("says", "slacks", "holds", "or", "and", "not");
        private final List<String> tokens = new ArrayList<>();
        private final List<Integer> places = new ArrayList<>();
        private int next;
        private int open;

        Reading(String tape) {
            int i = 0;
            while (i < tape.length()) {
                if (" \n".indexOf(tape.charAt(i)) >= 0) {
                    i++;
                    continue;
                }
                String rest = tape.substring(i);
                String token = rest.replaceFirst("(?s)^([a-z]+|[0-9]+|.).*$", "$1");
                tokens.add(token);
                places.add(i);
                i += token.length();
            }
            tokens.add("");
            places.add(tape.length());
        }

        private Refusal faultHere() {
            return new Refusal(-100 - places.get(next));
        }

        private boolean stands(String token) {
            return tokens.get(next).equals(token);
        }

        private boolean skip(String token) {
            if (stands(token)) {
                next++;
                return true;
            }
            return false;
        }

        private void must(String token) {
            if (!skip(token)) {
                throw faultHere();
            }
        }

        E[] text() {
            E[] all = new E[3];
            for (int k = 0; k < 3; k++) {
                must(KEYS.get(k));
                all[k] = e();
                must(";");
            }
            must("");
            return all;
        }

        private E e() {
            E left = and();
            while (skip("or")) {
                E l = left;
                E r = and();
                left = n -> (l.of(n) != 0 | r.of(n) != 0) ? 1 : 0;
            }
            return left;
        }

        private E and() {
            E left = not();
            while (skip("and")) {
                E l = left;
                E r = not();
                left = n -> (l.of(n) != 0 & r.of(n) != 0) ? 1 : 0;
            }
            return left;
        }

        private void openOne() {
            if (open == 5) {
                throw faultHere();
            }
            open++;
            next++;
        }

        private E not() {
            if (stands("not")) {
                openOne();
                E inner = not();
                open--;
                return n -> inner.of(n) == 0 ? 1 : 0;
            }
            E l = sum();
            if (skip("<")) {
                E r = sum();
                return n -> l.of(n) < r.of(n) ? 1 : 0;
            }
            if (skip("=")) {
                E r = sum();
                return n -> l.of(n) == r.of(n) ? 1 : 0;
            }
            return l;
        }

        private E sum() {
            E left = term();
            while (stands("+") || stands("-")) {
                int sign = stands("+") ? 1 : -1;
                next++;
                E l = left;
                E r = term();
                left = n -> l.of(n) + sign * r.of(n);
            }
            return left;
        }

        private E term() {
            E left = one();
            while (skip("*")) {
                E l = left;
                E r = one();
                left = n -> l.of(n) * r.of(n);
            }
            return left;
        }

        private E one() {
            String token = tokens.get(next);
            if (token.matches("[0-9]{1,4}")) {
                next++;
                int v = Integer.parseInt(token);
                return n -> v;
            }
            if (NAMES.contains(token)) {
                next++;
                int name = NAMES.indexOf(token);
                return n -> n[name];
            }
            if (stands("-")) {
                openOne();
                E inner = one();
                open--;
                return n -> -inner.of(n);
            }
            if (stands("(")) {
                openOne();
                E inner = e();
                must(")");
                open--;
                return inner;
            }
            throw faultHere();
        }
    }

    // ---- the vase

    static final class Someone {
        int kind;
        int number;
    }

    static final class Seam {
        int a;
        int b;
        int one;
        int tone;
        int force;
        Integer till;
    }

    final class World {
        int day;
        int pieces = 4;
        int rule;
        int more;
        final List<Someone> people = new ArrayList<>();
        final List<Seam> seams = new ArrayList<>();

        World copy() {
            World w = new World();
            w.day = day;
            w.pieces = pieces;
            w.rule = rule;
            for (Someone p : people) {
                Someone q = new Someone();
                q.kind = p.kind;
                q.number = p.number;
                w.people.add(q);
            }
            for (Seam s : seams) {
                Seam t = new Seam();
                t.a = s.a;
                t.b = s.b;
                t.one = s.one;
                t.tone = s.tone;
                t.force = s.force;
                t.till = s.till;
                w.seams.add(t);
            }
            return w;
        }

        int mended() {
            return (int) seams.stream().filter(s -> s.till != null).count();
        }

        int tell(int s, int sentence) {
            Seam seam = seams.get(s);
            int[] names = {seam.tone, day, people.get(seam.one).number, seam.force, mended(), s};
            return bound(texts.get(rule)[sentence].of(names));
        }

        int says(int s) {
            Someone p = people.get(seams.get(s).one);
            return KINDS.get(p.kind).says(p.number, day, tell(s, 0));
        }

        int slack(int s) {
            Someone p = people.get(seams.get(s).one);
            return KINDS.get(p.kind).slack(p.number, seams.get(s).force, tell(s, 1));
        }

        boolean takes(int s) {
            return Math.abs(says(s) - seams.get(s).tone) <= slack(s) + more;
        }

        boolean holds(int s) {
            return seams.get(s).till != null && seams.get(s).till >= day;
        }

        int call(int one) {
            int n = 0;
            for (int s = 0; s < seams.size(); s++) {
                if (seams.get(s).one == one && takes(s) && !holds(s)) {
                    seams.get(s).till = day + KINDS.get(people.get(one).kind).holds(tell(s, 2));
                    n++;
                }
            }
            return n;
        }

        void callAll(IntPredicate who) {
            IntStream.range(0, people.size()).filter(who).forEach(this::call);
        }

        /** The part of each piece, named by its least piece. */
        int[] parts(IntPredicate hold) {
            int[] of = IntStream.range(0, pieces).toArray();
            for (int s = 0; s < seams.size(); s++) {
                Seam seam = seams.get(s);
                if (hold.test(s) && seam.a < pieces && seam.b < pieces) {
                    int low = Math.min(of[seam.a], of[seam.b]);
                    int high = Math.max(of[seam.a], of[seam.b]);
                    for (int p = 0; p < pieces; p++) {
                        of[p] = of[p] == high ? low : of[p];
                    }
                }
            }
            return of;
        }

        int count(IntPredicate hold) {
            return (int) Arrays.stream(parts(hold)).distinct().count();
        }

        boolean whole() {
            return count(this::holds) == 1;
        }

        int bits(IntPredicate which) {
            return IntStream.range(0, seams.size()).filter(which).map(s -> 1 << s).sum();
        }

        void draw(int seed) {
            int z = seed;
            for (Seam s : seams) {
                z = z * 1103515245 + 12345;
                s.tone = (z >>> 9) % 100;
            }
        }
    }

    private final List<E[]> texts = new ArrayList<>();
    private World w = new World();
    private World kept;
    private String tape = "";
    private final Object[] sheets = new Object[4];

    Model() {
        texts.add(new Reading("says 20 + day ; slacks 3 + force ; holds 9 ;").text());
    }

    private void in(int v, int from, int to) {
        unless(v >= from && v <= to, -2);
    }

    private void isPerson(int one) {
        in(one, 0, w.people.size() - 1);
    }

    private void isSeam(int s) {
        in(s, 0, w.seams.size() - 1);
    }

    int set(int what, int of, int v) {
        int was = told(of, what);
        switch (what) {
            case 0 -> in(v, 0, 99);
            case 1 -> in(v, 1, 8);
            case 2, 4 -> in(v, 0, 9);
            case 3 -> in(v, 0, 99);
            case 5 -> isPerson(v);
            default -> throw new Refusal(-2);
        }
        switch (what) {
            case 0 -> w.day = v;
            case 1 -> w.pieces = v;
            case 2 -> w.people.get(of).number = v;
            case 3 -> w.seams.get(of).tone = v;
            case 4 -> w.seams.get(of).force = v;
            default -> w.seams.get(of).one = v;
        }
        return was;
    }

    int person(int kind, int number) {
        in(kind, 0, 5);
        in(number, 0, 9);
        unless(w.people.size() < 6, -4);
        Someone p = new Someone();
        p.kind = kind;
        p.number = number;
        w.people.add(p);
        return w.people.size() - 1;
    }

    int seam(int two, int one, int toneForce) {
        in(two, 0, 77);
        in(two % 10, two / 10 + 1, 7);
        isPerson(one);
        in(toneForce, 0, 999);
        unless(w.seams.size() < 10, -4);
        Seam s = new Seam();
        s.a = two / 10;
        s.b = two % 10;
        s.one = one;
        s.tone = toneForce / 10;
        s.force = toneForce % 10;
        w.seams.add(s);
        return w.seams.size() - 1;
    }

    int told(int of, int what) {
        in(what, 0, 12);
        if (what == 2 || what == 6) {
            isPerson(of);
        } else if (what > 1) {
            isSeam(of);
        }
        Seam s = what > 1 && of < w.seams.size() ? w.seams.get(of) : null;
        return switch (what) {
            case 0 -> w.day;
            case 1 -> w.pieces;
            case 2 -> w.people.get(of).number;
            case 3 -> s.tone;
            case 4 -> s.force;
            case 5 -> s.one;
            case 6 -> w.people.get(of).kind;
            case 7 -> 10 * s.a + s.b;
            case 8 -> s.till == null ? -1 : s.till;
            case 9 -> w.says(of);
            case 10 -> w.slack(of);
            case 11 -> w.takes(of) ? 1 : 0;
            default -> w.holds(of) ? 1 : 0;
        };
    }

    int feed(int letter) {
        in(letter, 0, 255);
        unless(tape.length() < 160, -4);
        tape += (char) letter;
        return tape.length();
    }

    int text() {
        unless(texts.size() < 6, -4);
        Reading reading = new Reading(tape);
        tape = "";
        texts.add(reading.text());
        return texts.size() - 1;
    }

    int force(int text) {
        in(text, 0, texts.size() - 1);
        int was = w.rule;
        w.rule = text;
        return was;
    }

    int call(int one) {
        isPerson(one);
        return w.call(one);
    }

    int vase(int what) {
        in(what, 0, 5);
        return switch (what) {
            case 0 -> w.count(w::holds);
            case 1 -> w.whole() ? 1 : 0;
            case 2 -> Integer.bitCount(w.bits(w::holds));
            case 3 -> Integer.bitCount(w.bits(w::takes));
            case 4 -> w.count(s -> w.holds(s) || w.takes(s));
            default -> w.bits(s -> w.holds(s) && w.count(t -> t != s && w.holds(t)) > w.count(w::holds));
        };
    }

    int part(int piece) {
        in(piece, 0, w.pieces - 1);
        int[] of = w.parts(w::holds);
        return IntStream.range(0, w.pieces).filter(p -> of[p] == of[piece]).map(p -> 1 << p).sum();
    }

    int when(int one) {
        isPerson(one);
        List<Integer> his = IntStream.range(0, w.seams.size()).filter(s -> w.seams.get(s).one == one).boxed().toList();
        for (int d = w.day; d <= 99 && !his.isEmpty(); d++) {
            World t = w.copy();
            t.day = d;
            if (his.stream().allMatch(t::takes)) {
                return d;
            }
        }
        return -1;
    }

    private World called(int set) {
        World t = w.copy();
        t.callAll(one -> (set >> one & 1) == 1);
        return t;
    }

    int fewest(int what) {
        in(what, 0, 1);
        for (int n = 0; n <= w.people.size(); n++) {
            for (int set = 0; set < 1 << w.people.size(); set++) {
                if (Integer.bitCount(set) == n && called(set).whole()) {
                    return what == 0 ? set : n;
                }
            }
        }
        return -1;
    }

    int wanted(int what) {
        in(what, 0, 1);
        int[] without = IntStream.range(0, w.people.size()).map(one -> {
            World t = called(~(1 << one));
            return t.count(t::holds);
        }).toArray();
        int most = Arrays.stream(without).max().orElse(-1);
        return what == 1 ? most : IntStream.range(0, without.length).filter(i -> without[i] == most).findFirst()
            .orElse(-1);
    }

    int soon() {
        World t = w.copy();
        for (; t.day <= 99; t.day++) {
            t.callAll(one -> true);
            if (t.whole()) {
                return t.day - w.day;
            }
        }
        return -1;
    }

    int gentler() {
        for (int more = 0; more <= 99; more++) {
            World t = w.copy();
            t.more = more;
            t.callAll(one -> true);
            if (t.whole()) {
                return more;
            }
        }
        return -1;
    }

    private int item(Object row, int i) {
        return row instanceof byte[] b ? b[i] : row instanceof short[] s ? s[i] : ((int[]) row)[i];
    }

    private int size(Object row) {
        return java.lang.reflect.Array.getLength(row);
    }

    int tells(int sheet, int one, int seam, int what) {
        in(sheet, 0, 3);
        isPerson(one);
        isSeam(seam);
        in(what, 0, 6);
        Object row = sheets[sheet];
        unless(row != null, -11);
        World t = w.copy();
        t.seams.get(seam).one = one;
        IntStream days = IntStream.range(0, size(row)).filter(d -> {
            t.day = d;
            return t.says(seam) != item(row, d);
        });
        int first = days.findFirst().orElse(-1);
        List<Integer> fitting = new ArrayList<>();
        int values = what == 1 ? 6 : what == 4 || what == 5 ? 100 : what == 6 ? texts.size() : 10;
        for (int v = 0; v < values && what > 0; v++) {
            World u = w.copy();
            u.seams.get(seam).one = one;
            switch (what) {
                case 1 -> u.people.get(one).kind = v;
                case 2 -> u.people.get(one).number = v;
                case 3 -> u.seams.get(seam).force = v;
                case 6 -> u.rule = v;
                default -> u.seams.get(seam).tone = v;
            }
            if (IntStream.range(0, size(row)).allMatch(d -> {
                u.day = d;
                return u.says(seam) == item(row, d);
            })) {
                fitting.add(v);
            }
        }
        return switch (what) {
            case 0 -> first;
            case 4 -> fitting.size();
            case 5 -> fitting.isEmpty() ? -1 : fitting.get(0);
            default -> fitting.stream().mapToInt(v -> 1 << v).sum();
        };
    }

    int film(int sheet, int one, int seam, int n) {
        in(sheet, 0, 3);
        isPerson(one);
        isSeam(seam);
        in(n, 0, 40);
        World t = w.copy();
        t.seams.get(seam).one = one;
        byte[] row = new byte[n];
        for (int d = 0; d < n; d++) {
            t.day = d;
            row[d] = (byte) t.says(seam);
        }
        sheets[sheet] = row;
        return n;
    }

    int drawn(int seed) {
        World t = w.copy();
        t.draw(seed);
        return Integer.bitCount(t.bits(t::takes));
    }

    long chance(int seed, int m, int part) {
        if (m < 1 || m > 20 || part < 0 || part > 1) {
            return -4611686018427387904L;
        }
        int good = 0;
        for (int k = 0; k < m; k++) {
            World t = w.copy();
            t.draw(seed + k);
            t.callAll(one -> true);
            good += t.whole() ? 1 : 0;
        }
        int g = java.math.BigInteger.valueOf(good).gcd(java.math.BigInteger.valueOf(m)).intValue();
        return part == 0 ? good / g : m / g;
    }

    int image() {
        kept = w.copy();
        return w.people.size();
    }

    int back() {
        unless(kept != null, -3);
        w = kept.copy();
        return w.people.size();
    }

    int count(int what) {
        in(what, 0, 5);
        return List.of(w.people.size(), w.seams.size(), w.mended(), texts.size(), tape.length(), w.rule).get(what);
    }

    int sheet(int sheet, int sort, int n) {
        in(sheet, 0, 3);
        in(sort, -1, 2);
        if (sort >= 0) {
            in(n, Integer.MIN_VALUE, 40);
            unless(n >= 0, -14);
        }
        sheets[sheet] = sort < 0 ? null : sort == 0 ? new byte[n] : sort == 1 ? new short[n] : new int[n];
        return 1;
    }

    int cell(int sheet, int i, int v) {
        in(sheet, 0, 3);
        Object row = sheets[sheet];
        unless(row != null, -11);
        unless(i >= 0 && i < size(row), -12);
        if (row instanceof byte[] b) {
            b[i] = (byte) v;
        } else if (row instanceof short[] s) {
            s[i] = (short) v;
        } else {
            ((int[]) row)[i] = v;
        }
        return 1;
    }

    int copy(int sheet, int i, int other, int j, int n) {
        in(sheet, 0, 3);
        in(other, 0, 3);
        unless(sheets[sheet] != null && sheets[other] != null, -11);
        unless(sheets[sheet].getClass() == sheets[other].getClass(), -13);
        try {
            System.arraycopy(sheets[sheet], i, sheets[other], j, n);
        } catch (IndexOutOfBoundsException e) {
            throw new Refusal(-12);
        }
        return n;
    }

    int people(int sheet, int sort, int from, int n) {
        in(sheet, 0, 3);
        in(sort, 0, 2);
        in(n, 0, 6);
        Object row = sheets[sheet];
        unless(row == null || row.getClass() == List.of(byte[].class, short[].class, int[].class).get(sort), -13);
        unless(row != null, -11);
        int came = 0;
        for (long k = 0; k < n; k++) {
            long i = from + 2 * k;
            unless(i >= 0 && i + 1 < size(row), -12);
            try {
                person(item(row, (int) i), item(row, (int) i + 1));
                came++;
            } catch (Refusal left) {
                continue;
            }
        }
        return came;
    }

    int taken(int one, int k) {
        in(k, 0, 5);
        unless(one >= 0 && one < w.people.size(), -11);
        Class<?> kind = KINDS.get(k).getClass();
        unless(kind.isInstance(KINDS.get(w.people.get(one).kind)), -13);
        return w.people.get(one).number;
    }
}
