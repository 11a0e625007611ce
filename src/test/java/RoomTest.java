import com.sun.management.ThreadMXBean;
import java.lang.management.ManagementFactory;

/** All calls of a run live in one room: calls make no objects but for a text, and a new object is small. */
public final class RoomTest {
    private static final ThreadMXBean threads = (ThreadMXBean) ManagementFactory.getThreadMXBean();
    private static final Due due = new Due("RoomTest");

    public static void main(String[] args) {
        MendedWithTheWord x = new MendedWithTheWord();
        fill(x);
        dear(x);
        long before = threads.getCurrentThreadAllocatedBytes();
        for (int k = 0; k < 12; k++) {
            dear(x);
        }
        due.same("12 times the dear calls make next to nothing",
            threads.getCurrentThreadAllocatedBytes() - before < 20_000, true);
        before = threads.getCurrentThreadAllocatedBytes();
        for (int k = 0; k < 100; k++) {
            x = new MendedWithTheWord();
        }
        due.same("a new object is small", threads.getCurrentThreadAllocatedBytes() - before < 100 * 10_000, true);
        due.end();
    }

    private static void fill(MendedWithTheWord x) {
        for (int one = 0; one < 6; one++) {
            x.person(one, 9);
        }
        for (int s = 0; s < 10; s++) {
            x.seam(1 + s % 7 * 11, s % 6, 200 + 37 * s);
        }
        x.set(1, 0, 8);
        while (x.count(3) < 3) {
            Due.text(x, "says (((((1+2)+day)+mended)*2)+3)*2 or 1 and not 0;slacks 1+2+3+4+5+6;holds 1+1+1+1;");
        }
        x.sheet(0, 2, 40);
    }

    private static void dear(MendedWithTheWord x) {
        x.image();
        x.fewest(0);
        x.wanted(1);
        x.soon();
        x.gentler();
        x.when(0);
        x.chance(5, 20, 0);
        x.drawn(9);
        for (int what = 0; what < 7; what++) {
            x.tells(0, 0, 0, what);
        }
        x.film(1, 0, 0, 40);
        x.people(0, 2, 0, 6);
        x.back();
    }
}
