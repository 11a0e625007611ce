import java.util.ArrayDeque;
import java.util.Deque;
import java.util.List;

/**
 * Where THE TAPE has its FAULT, told without the grammar: a machine with a stack that knows but what may stand next.
 * What is open is counted by what opened it, so that this shares nothing with a reader that calls itself.
 */
final class NextToken {
    private static final int NO_FAULT = -1, MOST_OPEN = 5, MOST_DIGITS = 4;
    private static final List<String> NAMES = List.of("tone", "day", "number", "force", "mended", "seam");
    private static final List<String> SENTENCES = List.of("says", "slacks", "holds");

    /** What may stand next: a KEY of a sentence, a NOT, a ONE, what comes behind a ONE, nothing at all. */
    private enum Next { KEY, NOT, ONE, BEHIND, NOTHING }

    /** What a ( holds, or a sentence: the not and the - that are open in it, and whether its NOT had < or = already. */
    private static final class Inside {
        private int nots;
        private int minuses;
        private boolean compared;
    }

    private final Deque<Inside> insides = new ArrayDeque<>();
    private Next next = Next.KEY;
    private int sentence;

    private NextToken() {
    }

    /** NO_FAULT, or the place. */
    static int fault(String tape) {
        NextToken machine = new NextToken();
        int at = 0;
        while (at < tape.length()) {
            if (" \n".indexOf(tape.charAt(at)) >= 0) {
                at++;
                continue;
            }
            String token = tokenAt(tape, at);
            if (!machine.stands(token)) {
                return at;
            }
            at += token.length();
        }
        return machine.next == Next.NOTHING ? NO_FAULT : tape.length();
    }

    private static String tokenAt(String tape, int from) {
        int to = from + 1;
        while (to < tape.length() && isOneToken(tape.charAt(from), tape.charAt(to))) {
            to++;
        }
        return tape.substring(from, to);
    }

    private static boolean isOneToken(char first, char other) {
        return isBetween('a', first, 'z') && isBetween('a', other, 'z')
            || isBetween('0', first, '9') && isBetween('0', other, '9');
    }

    private static boolean isBetween(char least, char letter, char greatest) {
        return least <= letter && letter <= greatest;
    }

    private int open() {
        int open = insides.size() - 1;
        for (Inside inside : insides) {
            open += inside.nots + inside.minuses;
        }
        return open;
    }

    private boolean stands(String token) {
        switch (next) {
            case KEY: return key(token);
            case NOT: return token.equals("not") ? not() : one(token);
            case ONE: return one(token);
            case BEHIND: return behind(token);
            default: return false;
        }
    }

    private boolean key(String token) {
        next = Next.NOT;
        insides.push(new Inside());
        return token.equals(SENTENCES.get(sentence));
    }

    private boolean not() {
        insides.peek().nots++;
        return open() <= MOST_OPEN;
    }

    private boolean one(String token) {
        if (NAMES.contains(token) || isBetween('0', token.charAt(0), '9')) {
            insides.peek().minuses = 0;
            next = Next.BEHIND;
            return token.length() <= MOST_DIGITS || NAMES.contains(token);
        }
        if (token.equals("-")) {
            insides.peek().minuses++;
            next = Next.ONE;
            return open() <= MOST_OPEN;
        }
        insides.push(new Inside());
        next = Next.NOT;
        return token.equals("(") && open() <= MOST_OPEN;
    }

    private boolean behind(String token) {
        switch (token) {
            case "+":
            case "-":
            case "*":
                next = Next.ONE;
                return true;
            case "<":
            case "=":
                next = Next.ONE;
                boolean isFirst = !insides.peek().compared;
                insides.peek().compared = true;
                return isFirst;
            case "and":
            case "or":
                next = Next.NOT;
                insides.peek().nots = 0;
                insides.peek().compared = false;
                return true;
            case ")":
                insides.pop();
                if (insides.isEmpty()) {
                    return false;
                }
                insides.peek().minuses = 0;
                return true;
            case ";":
                insides.pop();
                sentence++;
                next = sentence < SENTENCES.size() ? Next.KEY : Next.NOTHING;
                return insides.isEmpty();
            default:
                return false;
        }
    }
}
