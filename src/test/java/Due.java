import java.util.ArrayList;
import java.util.List;
import java.util.Objects;

/** What the tests share: what is due, counted; texts fed; all that an object tells of its state. */
final class Due {
    private final String test;
    private int asked;
    private int wrong;

    Due(String test) {
        this.test = test;
    }

    void is(String what, long got, long want) {
        asked++;
        if (got != want) {
            wrong++;
            System.out.println(test + ": " + what + " answered " + got + ", due is " + want);
        }
    }

    void same(String what, Object got, Object want) {
        asked++;
        if (!Objects.equals(got, want)) {
            wrong++;
            System.out.println(test + ": " + what + " is " + got + ", due is " + want);
        }
    }

    void end() {
        System.out.println(test + ": " + asked + " asked, " + wrong + " wrong");
        if (wrong != 0) {
            System.exit(1);
        }
    }

    static void feed(MendedWithTheWord x, String letters) {
        for (int i = 0; i < letters.length(); i++) {
            x.feed(letters.charAt(i));
        }
    }

    static int text(MendedWithTheWord x, String letters) {
        feed(x, letters);
        return x.text();
    }

    /** Sheets 0 .. 3 show by what is otherwise in them only, so that is asked of the first person and seam. */
    static List<Integer> state(MendedWithTheWord x) {
        List<Integer> all = new ArrayList<>();
        for (int what = 0; what < 6; what++) {
            all.add(x.count(what));
            all.add(x.vase(what));
        }
        for (int of = 0; of < 10; of++) {
            for (int what = 0; what < 13; what++) {
                all.add(x.told(of, what));
            }
        }
        for (int piece = 0; piece < 8; piece++) {
            all.add(x.part(piece));
        }
        for (int sheet = 0; sheet < 4; sheet++) {
            for (int what = 0; what < 7; what++) {
                all.add(x.tells(sheet, 0, 0, what));
            }
        }
        return all;
    }
}
