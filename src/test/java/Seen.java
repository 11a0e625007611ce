import java.util.ArrayList;
import java.util.List;

/**
 * All that can be seen of an object, what a SHEET, THE TAPE and THE IMAGE hold too. That can only be seen by calls that
 * change it: the object is not to be used behind this. Two objects that answered alike have seen the same.
 */
final class Seen {
    private static final int DOG = 5;

    private final MendedWithTheWord x;
    private final List<Integer> seen = new ArrayList<>();

    private Seen(MendedWithTheWord x) {
        this.x = x;
    }

    static List<Integer> all(MendedWithTheWord x) {
        Seen all = new Seen(x);
        all.vase();
        all.sheets();
        all.tape();
        all.seen.add(x.back());
        all.vase();
        return all.seen;
    }

    private void vase() {
        seen.add(x.told(0, 0));
        seen.add(x.told(0, 1));
        for (int what = 0; what < 6; what++) {
            seen.add(x.count(what));
            seen.add(x.vase(what));
        }
        for (int one = 0; one <= x.count(0); one++) {
            seen.add(x.told(one, 2));
            seen.add(x.told(one, 6));
        }
        for (int s = 0; s <= x.count(1); s++) {
            for (int what : new int[] {3, 4, 5, 7, 8, 9, 10, 11, 12}) {
                seen.add(x.told(s, what));
            }
        }
    }

    /** SHEET 3 is looked at first, and then each item of the others is copied to it alone. */
    private void sheets() {
        int dog = dog();
        for (int sheet = 3; sheet >= 0; sheet--) {
            int itsSort = sort(sheet);
            seen.add(itsSort);
            int size = size(sheet);
            seen.add(size);
            for (int i = 0; i < size; i++) {
                seen.add(sheet == 3 ? x.tells(3, dog, 0, 0) : item(sheet, itsSort, i, dog));
            }
        }
    }

    private int sort(int sheet) {
        for (int sort = 0; sort < 3; sort++) {
            if (x.people(sheet, sort, 0, 0) == 0) {
                return sort;
            }
        }
        return MendedWithTheWord.NONE;
    }

    private int size(int sheet) {
        int size = -1;
        while (size < 40 && x.copy(sheet, size + 1, sheet, size + 1, 0) == 0) {
            size++;
        }
        return size;
    }

    /** A DOG SAYS 9 times NUMBER on each DAY, so NUMBERS tell an item that is 0, 9, .. 81. */
    private int item(int sheet, int itsSort, int i, int dog) {
        x.sheet(3, itsSort, 1);
        x.copy(sheet, i, 3, 0, 1);
        return x.tells(3, dog, 0, 2);
    }

    private int dog() {
        for (int one = 0; one < x.count(0); one++) {
            if (x.told(one, 6) == DOG) {
                return one;
            }
        }
        return MendedWithTheWord.NONE;
    }

    private void tape() {
        int text = x.text();
        seen.add(text);
        seen.add(x.count(3));
        seen.add(x.count(4));
        if (text > 0) {
            x.force(text);
            seen.add(x.told(0, 9));
            seen.add(x.told(0, 10));
        }
    }
}
