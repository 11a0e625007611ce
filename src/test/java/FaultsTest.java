import java.util.Random;

/** Texts drawn by a seed, most with something put in, left out or cut off: text() and NextToken find one FAULT. */
public final class FaultsTest {
    private static final int DRAWN = 60_000, TAPE = 160;
    private static final String[] NAMES = {"tone", "day", "number", "force", "mended", "seam"};
    private static final String[] PUT_IN = {"tone", "day", "says", "slacks", "holds", "or", " or ", "and", " and ", "not",
        " not ", "(", ")", ";", "+", "-", "*", "<", "=", "0", "00012", "9999", "10000", "x", " ", "\n", "!", "dayday",
        "{", "`", "/", ":", "\t", "\0", "\u00ff", "A"};

    private static final Random random = new Random(9);
    private static final Due due = new Due("FaultsTest");

    public static void main(String[] args) {
        int drawn = args.length > 0 ? Integer.parseInt(args[0]) : DRAWN;
        int good = 0;
        for (int k = 0; k < drawn; k++) {
            good += isGood(spoilt(text())) ? 1 : 0;
        }
        due.same("a tenth of them and more are TEXTS", good > drawn / 10, true);
        due.same("a tenth of them and more are none", drawn - good > drawn / 10, true);
        due.end();
    }

    private static boolean isGood(String text) {
        String tape = text.substring(0, Math.min(TAPE, text.length()));
        int fault = NextToken.fault(tape);
        due.is("text() of " + tape, Due.text(new MendedWithTheWord(), tape), fault < 0 ? 1 : -100 - fault);
        return fault < 0;
    }

    private static String spoilt(String text) {
        String spoilt = text;
        for (int k = random.nextInt(3); k > 0; k--) {
            int at = random.nextInt(spoilt.length() + 1);
            String behind = spoilt.substring(at);
            switch (random.nextInt(4)) {
                case 0: behind = ""; break;
                case 1: behind = behind.isEmpty() ? "" : behind.substring(1); break;
                default: behind = PUT_IN[random.nextInt(PUT_IN.length)] + behind; break;
            }
            spoilt = spoilt.substring(0, at) + behind;
        }
        return spoilt;
    }

    private static String text() {
        return "says " + e(random.nextInt(8)) + ";" + blank() + "slacks " + e(random.nextInt(3)) + ";" + blank() + "holds "
            + e(random.nextInt(7)) + blank() + ";" + blank();
    }

    private static boolean once(int of) {
        return random.nextInt(of) == 0;
    }

    private static String blank() {
        return once(6) ? " " : once(6) ? "\n" : "";
    }

    /** As many of ( not - as open goes down may be open, so more than five at times. */
    private static String e(int open) {
        String e = not(open);
        while (once(4)) {
            e += (once(2) ? " or " : " and ") + not(open);
        }
        return e;
    }

    private static String not(int open) {
        if (open > 0 && once(4)) {
            return "not " + not(open - 1);
        }
        return once(5) ? sum(open) + blank() + (once(2) ? "<" : "=") + blank() + sum(open) : sum(open);
    }

    private static String sum(int open) {
        String sum = one(open);
        while (once(4)) {
            sum += blank() + "+-*".charAt(random.nextInt(3)) + blank() + one(open);
        }
        return sum;
    }

    private static String one(int open) {
        if (open > 0 && once(2)) {
            return once(2) ? "-" + blank() + one(open - 1) : "(" + e(open - 1) + ")";
        }
        return once(3) ? String.valueOf(random.nextInt(once(2) ? 10 : 10_010)) : NAMES[random.nextInt(NAMES.length)];
    }
}
