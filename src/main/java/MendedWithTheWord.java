import java.util.Arrays;

/** A vase that is mended with the words that broke it. ../shared/DOC.md says what each call answers. */
public final class MendedWithTheWord {
    public static final int NONE = -1, BAD = -2, STATE = -3, FULL = -4;
    public static final long NO = -4611686018427387904L;

    private static final int NOTHING = -11, OUTSIDE = -12, OTHER_SORT = -13, BELOW_ZERO = -14;

    private static final int DAYS = 100, TONES = 100, NUMBERS = 10, FORCES = 10, BOUND = 99;
    private static final int MOST_PIECES = 8, MOST_PEOPLE = 6, MOST_SEAMS = 10;
    private static final int MOST_TEXTS = 6, TAPE_BYTES = 160, MOST_DIGITS = 4, MOST_OPEN = 5;
    private static final int SHEETS = 4, MOST_ITEMS = 40, MOST_SEEDS = 20;

    private static final int PERSON = 0, LOVER = 1, CHILD = 2, PARTED = 3, BABY = 4, DOG = 5, KINDS = 6;

    private static final int BYTES = 0, SHORTS = 1, INTS = 2;

    /** What set() and told() name by numbers; WHICH_RULE is none of theirs, but what tells() varies, too. */
    private static final int DAY = 0, PIECES = 1, NUMBER = 2, TONE = 3, FORCE = 4, BROKE = 5, KIND = 6, BETWEEN = 7,
            TILL = 8, SAID = 9, SLACK = 10, TAKES = 11, HOLDS_NOW = 12, WHICH_RULE = 13;

    /** The sentences of a TEXT. */
    private static final int SAYS = 0, SLACKS = 1, HOLDS = 2;

    private static final String FIRST_RULE = "says 20 + day ; slacks 3 + force ; holds 9 ;";

    private final Rules rules = new Rules();
    private final Reader reader = new Reader();
    private final Vase now = new Vase(rules);
    private final Vase kept = new Vase(rules);
    /** What would be is tried on this one, so that no call has to make a vase of its own. */
    private final Vase trial = new Vase(rules);
    private final Sheet[] sheets = new Sheet[SHEETS];
    private boolean hasImage;

    public MendedWithTheWord() {
        for (int i = 0; i < SHEETS; i++) {
            sheets[i] = new Sheet();
        }
        for (int i = 0; i < FIRST_RULE.length(); i++) {
            reader.add(FIRST_RULE.charAt(i));
        }
        rules.add(reader.read());
        reader.empty();
    }

    // ---- people, seams.

    public int set(int what, int of, int v) {
        if (what < DAY || what > BROKE || !now.has(what, of) || v < least(what) || v > most(what)) {
            return BAD;
        }
        int was = now.get(what, of);
        now.put(what, of, v);
        return was;
    }

    public int person(int kind, int number) {
        if (kind < 0 || kind >= KINDS || number < 0 || number >= NUMBERS) {
            return BAD;
        }
        return now.addPerson(kind, number);
    }

    public int seam(int two, int one, int toneForce) {
        if (!isTwoPieces(two) || !now.isPerson(one) || toneForce < 0 || toneForce >= TONES * FORCES) {
            return BAD;
        }
        return now.addSeam(two, one, toneForce / FORCES, toneForce % FORCES);
    }

    public int told(int of, int what) {
        return what < DAY || what > HOLDS_NOW || !now.has(what, of) ? BAD : now.get(what, of);
    }

    // ---- texts.

    public int feed(int letter) {
        if (letter < 0 || letter > 255) {
            return BAD;
        }
        return reader.add(letter);
    }

    public int text() {
        if (rules.size >= MOST_TEXTS) {
            return FULL;
        }
        Text read = reader.read();
        reader.empty();
        return read == null ? -100 - reader.fault() : rules.add(read);
    }

    public int force(int text) {
        if (text < 0 || text >= rules.size) {
            return BAD;
        }
        int was = now.rule;
        now.rule = text;
        return was;
    }

    // ---- what is whole.

    public int call(int one) {
        return now.isPerson(one) ? now.callPeople(1 << one) : BAD;
    }

    public int vase(int what) {
        switch (what) {
            case 0: return now.parts(now.holding());
            case 1: return now.isWhole() ? 1 : 0;
            case 2: return Integer.bitCount(now.holding());
            case 3: return Integer.bitCount(now.taking());
            case 4: return now.parts(now.holding() | now.taking());
            case 5: return now.lastSeams();
            default: return BAD;
        }
    }

    public int part(int piece) {
        return piece < 0 || piece >= now.pieces ? BAD : now.hanging(piece, now.holding());
    }

    // ---- what would be best.

    public int when(int one) {
        if (!now.isPerson(one)) {
            return BAD;
        }
        int wished = now.brokenBy(one);
        if (wished == 0) {
            return NONE;
        }
        trial.become(now);
        for (int day = now.day; day < DAYS; day++) {
            trial.day = day;
            if ((trial.taking() & wished) == wished) {
                return day;
            }
        }
        return NONE;
    }

    public int fewest(int what) {
        if (what < 0 || what > 1) {
            return BAD;
        }
        int best = NONE;
        for (int set = 0; set <= now.everybody(); set++) {
            trial.become(now);
            trial.callPeople(set);
            if (trial.isWhole() && (best == NONE || Integer.bitCount(set) < Integer.bitCount(best))) {
                best = set;
            }
        }
        return what == 0 || best == NONE ? best : Integer.bitCount(best);
    }

    public int wanted(int what) {
        if (what < 0 || what > 1) {
            return BAD;
        }
        int most = NONE;
        int first = NONE;
        for (int one = 0; one < now.people; one++) {
            trial.become(now);
            trial.callPeople(now.everybody() & ~(1 << one));
            int parts = trial.parts(trial.holding());
            if (parts > most) {
                most = parts;
                first = one;
            }
        }
        return what == 0 ? first : most;
    }

    public int soon() {
        trial.become(now);
        for (int day = now.day; day < DAYS; day++) {
            trial.day = day;
            trial.callPeople(now.everybody());
            if (trial.isWhole()) {
                return day - now.day;
            }
        }
        return NONE;
    }

    public int gentler() {
        for (int more = 0; more <= BOUND; more++) {
            trial.become(now);
            trial.moreSlack = more;
            trial.callPeople(now.everybody());
            if (trial.isWhole()) {
                return more;
            }
        }
        return NONE;
    }

    // ---- what was heard.

    public int tells(int sheet, int one, int seam, int what) {
        if (!isSheet(sheet) || !now.isPerson(one) || !now.isSeam(seam) || what < 0 || what > 6) {
            return BAD;
        }
        Sheet heard = sheets[sheet];
        if (heard.isMissing()) {
            return NOTHING;
        }
        trial.become(now);
        trial.put(BROKE, seam, one);
        switch (what) {
            case 0: return trial.firstOtherwise(seam, heard);
            case 1: return trial.fitting(KIND, one, seam, heard);
            case 2: return trial.fitting(NUMBER, one, seam, heard);
            case 3: return trial.fitting(FORCE, seam, seam, heard);
            case 4: return trial.fittingTones(seam, heard);
            case 5: return trial.leastFittingTone(seam, heard);
            default: return trial.fitting(WHICH_RULE, 0, seam, heard);
        }
    }

    public int film(int sheet, int one, int seam, int n) {
        if (!isSheet(sheet) || !now.isPerson(one) || !now.isSeam(seam) || n < 0 || n > MOST_ITEMS) {
            return BAD;
        }
        trial.become(now);
        trial.put(BROKE, seam, one);
        sheets[sheet].become(BYTES, n);
        for (int day = 0; day < n; day++) {
            trial.day = day;
            sheets[sheet].put(day, trial.says(seam));
        }
        return n;
    }

    public int drawn(int seed) {
        trial.become(now);
        trial.drawTones(seed);
        return Integer.bitCount(trial.taking());
    }

    public long chance(int seed, int m, int part) {
        if (m < 1 || m > MOST_SEEDS || part < 0 || part > 1) {
            return NO;
        }
        int good = 0;
        for (int k = 0; k < m; k++) {
            trial.become(now);
            trial.drawTones(seed + k);
            trial.callPeople(now.everybody());
            good += trial.isWhole() ? 1 : 0;
        }
        int divisor = greatestDivisor(m, good);
        return (part == 0 ? good : m) / divisor;
    }

    public int image() {
        kept.become(now);
        hasImage = true;
        return kept.people;
    }

    public int back() {
        if (!hasImage) {
            return STATE;
        }
        now.become(kept);
        return now.people;
    }

    public int count(int what) {
        switch (what) {
            case 0: return now.people;
            case 1: return now.seams;
            case 2: return now.mended();
            case 3: return rules.size;
            case 4: return reader.size;
            case 5: return now.rule;
            default: return BAD;
        }
    }

    // ---- the host.

    public int sheet(int sheet, int sort, int n) {
        if (!isSheet(sheet) || sort != NONE && !isSort(sort)) {
            return BAD;
        }
        if (sort == NONE) {
            sheets[sheet].become(NONE, 0);
            return 1;
        }
        if (n > MOST_ITEMS) {
            return BAD;
        }
        if (n < 0) {
            return BELOW_ZERO;
        }
        sheets[sheet].become(sort, n);
        return 1;
    }

    public int cell(int sheet, int i, int v) {
        if (!isSheet(sheet)) {
            return BAD;
        }
        if (sheets[sheet].isMissing()) {
            return NOTHING;
        }
        if (!sheets[sheet].hasItems(i, 1)) {
            return OUTSIDE;
        }
        sheets[sheet].put(i, v);
        return 1;
    }

    public int copy(int sheet, int i, int other, int j, int n) {
        if (!isSheet(sheet) || !isSheet(other)) {
            return BAD;
        }
        Sheet from = sheets[sheet];
        Sheet to = sheets[other];
        if (from.isMissing() || to.isMissing()) {
            return NOTHING;
        }
        if (from.sort != to.sort) {
            return OTHER_SORT;
        }
        if (!from.hasItems(i, n) || !to.hasItems(j, n)) {
            return OUTSIDE;
        }
        System.arraycopy(from.items, i, to.items, j, n);
        return n;
    }

    public int people(int sheet, int sort, int from, int n) {
        if (!isSheet(sheet) || !isSort(sort) || n < 0 || n > MOST_PEOPLE) {
            return BAD;
        }
        Sheet list = sheets[sheet];
        if (list.isMissing()) {
            return NOTHING;
        }
        if (list.sort != sort) {
            return OTHER_SORT;
        }
        int came = 0;
        for (int k = 0; k < n; k++) {
            // Only a place inside leads on, so no sum of places can wrap.
            if (!list.hasItems(from, 2 * k + 2)) {
                return OUTSIDE;
            }
            int i = from + 2 * k;
            came += person(list.items[i], list.items[i + 1]) >= 0 ? 1 : 0;
        }
        return came;
    }

    public int taken(int one, int k) {
        if (k < 0 || k >= KINDS) {
            return BAD;
        }
        if (!now.isPerson(one)) {
            return NOTHING;
        }
        return Kinds.isUnder(now.kind[one], k) ? now.number[one] : OTHER_SORT;
    }

    private int least(int what) {
        return what == PIECES ? 1 : 0;
    }

    private int most(int what) {
        switch (what) {
            case DAY: return DAYS - 1;
            case PIECES: return MOST_PIECES;
            case NUMBER: return NUMBERS - 1;
            case TONE: return TONES - 1;
            case FORCE: return FORCES - 1;
            default: return now.people - 1;
        }
    }

    private static boolean isTwoPieces(int two) {
        return two >= 0 && two / 10 < two % 10 && two % 10 < MOST_PIECES;
    }

    private static boolean isSheet(int sheet) {
        return sheet >= 0 && sheet < SHEETS;
    }

    private static boolean isSort(int sort) {
        return sort >= BYTES && sort <= INTS;
    }

    private static int bound(int v) {
        return v < 0 ? 0 : v > BOUND ? BOUND : v;
    }

    private static int greatestDivisor(int a, int b) {
        int greater = a;
        int lesser = b;
        for (int steps = 0; steps < MOST_SEEDS && lesser != 0; steps++) {
            int rest = greater % lesser;
            greater = lesser;
            lesser = rest;
        }
        return greater == 0 ? 1 : greater;
    }

    /**
     * How KINDS differ. What one KIND takes from another is that other's SAYS, SLACK, HOLDS, which are within their
     * bounds already.
     */
    private static final class Kinds {
        static int says(int kind, int number, int day, int v) {
            switch (kind) {
                case LOVER: return loverSays(number, day, v);
                case CHILD: return bound(v - day);
                case PARTED: return loverSays(number, day, v) / 2;
                case BABY: return day % 2 != 0 ? 0 : bound(v - day);
                case DOG: return bound(9 * number);
                default: return bound(v);
            }
        }

        static int slack(int kind, int number, int force, int v) {
            switch (kind) {
                case LOVER: return bound(v + force);
                case CHILD: return bound(v + number);
                case PARTED: return force > 5 ? bound(v + force) / 2 : bound(v + force);
                case BABY: return BOUND;
                case DOG: return bound(force);
                default: return bound(v);
            }
        }

        static int holds(int kind, int v) {
            switch (kind) {
                case LOVER:
                case PARTED: return bound(2 * v);
                case CHILD: return bound(v - 1);
                case BABY: return 0;
                default: return bound(v);
            }
        }

        static boolean isUnder(int kind, int above) {
            int k = kind;
            for (int steps = 0; steps < KINDS && k != NONE; steps++) {
                if (k == above) {
                    return true;
                }
                k = nextAbove(k);
            }
            return false;
        }

        private static int nextAbove(int kind) {
            switch (kind) {
                case PERSON: return NONE;
                case PARTED: return LOVER;
                case BABY: return CHILD;
                default: return PERSON;
            }
        }

        private static int loverSays(int number, int day, int v) {
            return bound(day % 7 == 0 ? v + number : v);
        }
    }

    /** All that an IMAGE keeps, and what follows from it. People, seams and pieces in sets are bits. */
    private static final class Vase {
        private final Rules rules;
        private int day;
        private int pieces = 4;
        private int people;
        private final int[] kind = new int[MOST_PEOPLE];
        private final int[] number = new int[MOST_PEOPLE];
        private int seams;
        private final int[] two = new int[MOST_SEAMS];
        private final int[] broke = new int[MOST_SEAMS];
        private final int[] tone = new int[MOST_SEAMS];
        private final int[] force = new int[MOST_SEAMS];
        private final int[] till = new int[MOST_SEAMS];
        private int rule;
        private int moreSlack;

        Vase(Rules rules) {
            this.rules = rules;
        }

        void become(Vase other) {
            day = other.day;
            pieces = other.pieces;
            people = other.people;
            System.arraycopy(other.kind, 0, kind, 0, MOST_PEOPLE);
            System.arraycopy(other.number, 0, number, 0, MOST_PEOPLE);
            seams = other.seams;
            System.arraycopy(other.two, 0, two, 0, MOST_SEAMS);
            System.arraycopy(other.broke, 0, broke, 0, MOST_SEAMS);
            System.arraycopy(other.tone, 0, tone, 0, MOST_SEAMS);
            System.arraycopy(other.force, 0, force, 0, MOST_SEAMS);
            System.arraycopy(other.till, 0, till, 0, MOST_SEAMS);
            rule = other.rule;
            moreSlack = other.moreSlack;
        }

        boolean isPerson(int one) {
            return one >= 0 && one < people;
        }

        boolean isSeam(int s) {
            return s >= 0 && s < seams;
        }

        int everybody() {
            return (1 << people) - 1;
        }

        int addPerson(int itsKind, int itsNumber) {
            if (people >= MOST_PEOPLE) {
                return FULL;
            }
            kind[people] = itsKind;
            number[people] = itsNumber;
            return people++;
        }

        int addSeam(int itsTwo, int one, int itsTone, int itsForce) {
            if (seams >= MOST_SEAMS) {
                return FULL;
            }
            two[seams] = itsTwo;
            broke[seams] = one;
            tone[seams] = itsTone;
            force[seams] = itsForce;
            till[seams] = NONE;
            return seams++;
        }

        boolean has(int what, int of) {
            switch (what) {
                case DAY:
                case PIECES:
                case WHICH_RULE: return true;
                case NUMBER:
                case KIND: return isPerson(of);
                default: return isSeam(of);
            }
        }

        int get(int what, int of) {
            if (!has(what, of)) {
                return NONE;
            }
            switch (what) {
                case DAY: return day;
                case PIECES: return pieces;
                case NUMBER: return number[of];
                case TONE: return tone[of];
                case FORCE: return force[of];
                case BROKE: return broke[of];
                case KIND: return kind[of];
                case BETWEEN: return two[of];
                case TILL: return till[of];
                case SAID: return says(of);
                case SLACK: return slack(of);
                case TAKES: return takes(of) ? 1 : 0;
                case HOLDS_NOW: return holds(of) ? 1 : 0;
                default: return rule;
            }
        }

        void put(int what, int of, int v) {
            if (!has(what, of)) {
                return;
            }
            switch (what) {
                case DAY: day = v; break;
                case PIECES: pieces = v; break;
                case NUMBER: number[of] = v; break;
                case TONE: tone[of] = v; break;
                case FORCE: force[of] = v; break;
                case BROKE: broke[of] = v; break;
                case KIND: kind[of] = v; break;
                case WHICH_RULE: rule = v; break;
                default: break;
            }
        }

        int mended() {
            int mended = 0;
            for (int s = 0; s < seams; s++) {
                mended += till[s] != NONE ? 1 : 0;
            }
            return mended;
        }

        int says(int s) {
            return Kinds.says(kind[broke[s]], number[broke[s]], day, telling(s, SAYS));
        }

        int slack(int s) {
            return Kinds.slack(kind[broke[s]], number[broke[s]], force[s], telling(s, SLACKS)) + moreSlack;
        }

        boolean takes(int s) {
            return Math.abs(says(s) - tone[s]) <= slack(s);
        }

        boolean holds(int s) {
            return till[s] != NONE && day <= till[s];
        }

        private int holdsFor(int s) {
            return Kinds.holds(kind[broke[s]], telling(s, HOLDS));
        }

        private int telling(int s, int sentence) {
            rules.name(tone[s], day, number[broke[s]], force[s], mended(), s);
            return rules.tell(rule, sentence);
        }

        int holding() {
            int held = 0;
            for (int s = 0; s < seams; s++) {
                held |= holds(s) ? 1 << s : 0;
            }
            return held;
        }

        int taking() {
            int taken = 0;
            for (int s = 0; s < seams; s++) {
                taken |= takes(s) ? 1 << s : 0;
            }
            return taken;
        }

        int brokenBy(int one) {
            int broken = 0;
            for (int s = 0; s < seams; s++) {
                broken |= broke[s] == one ? 1 << s : 0;
            }
            return broken;
        }

        /** Each seam is told as it is when its turn comes: the rule may ask how many are mended by then. */
        int callPeople(int called) {
            int mendedNow = 0;
            for (int one = 0; one < people; one++) {
                for (int s = 0; s < seams; s++) {
                    if ((called >> one & 1) != 0 && broke[s] == one && !holds(s) && takes(s)) {
                        till[s] = day + holdsFor(s);
                        mendedNow++;
                    }
                }
            }
            return mendedNow;
        }

        private boolean hasItsPieces(int s) {
            return two[s] % 10 < pieces;
        }

        int hanging(int piece, int by) {
            int hanging = 1 << piece;
            for (int rounds = 0; rounds < pieces; rounds++) {
                for (int s = 0; s < seams; s++) {
                    int both = (1 << two[s] / 10) | (1 << two[s] % 10);
                    if ((by >> s & 1) != 0 && hasItsPieces(s) && (both & hanging) != 0) {
                        hanging |= both;
                    }
                }
            }
            return hanging;
        }

        int parts(int by) {
            int parts = 0;
            int seen = 0;
            for (int piece = 0; piece < pieces; piece++) {
                if ((seen >> piece & 1) == 0) {
                    parts++;
                    seen |= hanging(piece, by);
                }
            }
            return parts;
        }

        boolean isWhole() {
            return parts(holding()) == 1;
        }

        int lastSeams() {
            int held = holding();
            int parts = parts(held);
            int last = 0;
            for (int s = 0; s < seams; s++) {
                if ((held >> s & 1) != 0 && parts(held & ~(1 << s)) > parts) {
                    last |= 1 << s;
                }
            }
            return last;
        }

        /** The vase stands on another DAY behind this; it is for a trial. So is what follows. */
        int firstOtherwise(int s, Sheet heard) {
            for (int i = 0; i < heard.size; i++) {
                day = i;
                if (says(s) != heard.items[i]) {
                    return i;
                }
            }
            return NONE;
        }

        int fitting(int what, int of, int s, Sheet heard) {
            int values = what == KIND ? KINDS : what == NUMBER ? NUMBERS : what == FORCE ? FORCES : rules.size;
            int fitting = 0;
            for (int v = 0; v < values; v++) {
                put(what, of, v);
                fitting |= firstOtherwise(s, heard) == NONE ? 1 << v : 0;
            }
            return fitting;
        }

        int fittingTones(int s, Sheet heard) {
            int fitting = 0;
            for (int v = 0; v < TONES; v++) {
                tone[s] = v;
                fitting += firstOtherwise(s, heard) == NONE ? 1 : 0;
            }
            return fitting;
        }

        int leastFittingTone(int s, Sheet heard) {
            for (int v = 0; v < TONES; v++) {
                tone[s] = v;
                if (firstOtherwise(s, heard) == NONE) {
                    return v;
                }
            }
            return NONE;
        }

        void drawTones(int seed) {
            int z = seed;
            for (int s = 0; s < seams; s++) {
                z = z * 1103515245 + 12345;
                tone[s] = (z >>> 9) % TONES;
            }
        }
    }

    /** A row of numbers of a sort, or missing (of sort NONE). */
    private static final class Sheet {
        private int sort = NONE;
        private int size;
        private final int[] items = new int[MOST_ITEMS];

        boolean isMissing() {
            return sort == NONE;
        }

        void become(int itsSort, int n) {
            sort = itsSort;
            size = n;
            Arrays.fill(items, 0);
        }

        boolean hasItems(int from, int n) {
            return n >= 0 && from >= 0 && n <= size && from <= size - n;
        }

        void put(int i, int v) {
            if (hasItems(i, 1)) {
                items[i] = sort == BYTES ? (byte) v : sort == SHORTS ? (short) v : v;
            }
        }
    }

    /**
     * What a TEXT was read as: its sentences one behind another, in each what is joined ahead of what joins it, so
     * that it is told without recursion. An item from 0 on is a number, an item below is a token with a minus.
     */
    private static final class Text {
        private final int[] code;
        private final int slacksStart;
        private final int holdsStart;

        Text(int[] code, int slacksStart, int holdsStart) {
            this.code = code;
            this.slacksStart = slacksStart;
            this.holdsStart = holdsStart;
        }

        int start(int sentence) {
            return sentence == SAYS ? 0 : sentence == SLACKS ? slacksStart : holdsStart;
        }

        int end(int sentence) {
            return sentence == SAYS ? slacksStart : sentence == SLACKS ? holdsStart : code.length;
        }
    }

    /** The TEXTS, and what their NAMES stand for while one is told. */
    private static final class Rules {
        private final Text[] texts = new Text[MOST_TEXTS];
        private int size;
        private final int[] names = new int[Token.LAST_NAME - Token.FIRST_NAME + 1];
        /** Five ( and what waits ahead of each and behind the last (or, and, <, +, * once each) need 31. */
        private final int[] stack = new int[40];

        int add(Text text) {
            if (size >= MOST_TEXTS) {
                return FULL;
            }
            texts[size] = text;
            return size++;
        }

        void name(int tone, int day, int number, int force, int mended, int seam) {
            names[0] = tone;
            names[1] = day;
            names[2] = number;
            names[3] = force;
            names[4] = mended;
            names[5] = seam;
        }

        int tell(int rule, int sentence) {
            Text text = rule >= 0 && rule < size ? texts[rule] : null;
            if (text == null) {
                return 0;
            }
            int height = 0;
            int end = text.end(sentence);
            for (int i = text.start(sentence); i < end; i++) {
                int item = text.code[i];
                int joined = Token.joins(item);
                if (height < joined || height - joined >= stack.length) {
                    return 0;
                }
                int left = joined == 2 ? stack[height - 2] : 0;
                int right = joined > 0 ? stack[height - 1] : 0;
                height -= joined;
                stack[height] = worth(item, left, right);
                height++;
            }
            return height == 0 ? 0 : bound(stack[0]);
        }

        private int worth(int item, int left, int right) {
            if (item >= 0) {
                return item;
            }
            int name = -item - Token.FIRST_NAME;
            if (name >= 0 && name < names.length) {
                return names[name];
            }
            switch (-item) {
                case Token.OPPOSITE: return -right;
                case Token.PLUS: return left + right;
                case Token.MINUS: return left - right;
                case Token.TIMES: return left * right;
                case Token.NOT: return right == 0 ? 1 : 0;
                case Token.LESS: return left < right ? 1 : 0;
                case Token.EQUAL: return left == right ? 1 : 0;
                case Token.AND: return left != 0 && right != 0 ? 1 : 0;
                default: return left != 0 || right != 0 ? 1 : 0;
            }
        }
    }

    /** TOKENS by numbers: SIGNS by their bytes, what else there is below these. */
    private static final class Token {
        static final int END = 0, WRONG = 1, DIGITS = 2;
        static final int FIRST_NAME = 3, LAST_NAME = 8;
        static final int SAYS_KEY = 9, SLACKS_KEY = 10, HOLDS_KEY = 11, OR = 12, AND = 13, NOT = 14;
        /** A - ahead of a ONE, in what a TEXT was read as. */
        static final int OPPOSITE = 15;
        static final int OPEN = '(', CLOSE = ')', STOP = ';', PLUS = '+', MINUS = '-', TIMES = '*', LESS = '<',
                EQUAL = '=';

        static boolean isName(int token) {
            return token >= FIRST_NAME && token <= LAST_NAME;
        }

        static boolean isSign(int letter) {
            return letter == OPEN || letter == CLOSE || letter == STOP || letter == PLUS || letter == MINUS
                    || letter == TIMES || letter == LESS || letter == EQUAL;
        }

        /** How many numbers an item of a TEXT makes one. */
        static int joins(int item) {
            if (item >= -LAST_NAME) {
                return 0;
            }
            return item == -OPPOSITE || item == -NOT ? 1 : 2;
        }
    }

    /**
     * Reads THE TAPE. What reads a part of the grammar answers whether it stood there; if it did not, no more is read,
     * and the TOKEN that is looked at is the one that can't stand there.
     */
    private static final class Reader {
        private final int[] tape = new int[TAPE_BYTES];
        private int size;
        /** Of the first byte behind the TOKEN that is looked at. */
        private int place;
        private int token;
        private int start;
        private int digits;
        private int open;
        private final int[] code = new int[TAPE_BYTES];
        private int length;
        private final int[] starts = new int[HOLDS + 1];

        int add(int letter) {
            if (size >= TAPE_BYTES) {
                return FULL;
            }
            tape[size] = letter;
            size++;
            return size;
        }

        void empty() {
            size = 0;
        }

        int fault() {
            return start;
        }

        /** Answers null if there is a FAULT. */
        Text read() {
            place = 0;
            open = 0;
            length = 0;
            look();
            for (int sentence = SAYS; sentence <= HOLDS; sentence++) {
                starts[sentence] = length;
                if (token != Token.SAYS_KEY + sentence) {
                    return null;
                }
                look();
                if (!readOrs() || token != Token.STOP) {
                    return null;
                }
                look();
            }
            return token == Token.END ? new Text(Arrays.copyOf(code, length), starts[SLACKS], starts[HOLDS]) : null;
        }

        private boolean readOrs() {
            boolean good = readAnds();
            for (int k = 0; k < TAPE_BYTES && good && token == Token.OR; k++) {
                look();
                good = readAnds();
                write(-Token.OR);
            }
            return good;
        }

        private boolean readAnds() {
            boolean good = readNot();
            for (int k = 0; k < TAPE_BYTES && good && token == Token.AND; k++) {
                look();
                good = readNot();
                write(-Token.AND);
            }
            return good;
        }

        private boolean readNot() {
            if (token != Token.NOT) {
                return readCompared();
            }
            if (open >= MOST_OPEN) {
                return false;
            }
            open++;
            look();
            boolean good = readNot();
            write(-Token.NOT);
            open--;
            return good;
        }

        private boolean readCompared() {
            if (!readSum()) {
                return false;
            }
            if (token != Token.LESS && token != Token.EQUAL) {
                return true;
            }
            int sign = token;
            look();
            boolean good = readSum();
            write(-sign);
            return good;
        }

        private boolean readSum() {
            boolean good = readTerm();
            for (int k = 0; k < TAPE_BYTES && good && (token == Token.PLUS || token == Token.MINUS); k++) {
                int sign = token;
                look();
                good = readTerm();
                write(-sign);
            }
            return good;
        }

        private boolean readTerm() {
            boolean good = readOne();
            for (int k = 0; k < TAPE_BYTES && good && token == Token.TIMES; k++) {
                look();
                good = readOne();
                write(-Token.TIMES);
            }
            return good;
        }

        private boolean readOne() {
            if (token == Token.DIGITS || Token.isName(token)) {
                write(token == Token.DIGITS ? digits : -token);
                look();
                return true;
            }
            if (token != Token.MINUS && token != Token.OPEN || open >= MOST_OPEN) {
                return false;
            }
            boolean opposite = token == Token.MINUS;
            open++;
            look();
            boolean good = opposite ? readOne() : readInside();
            if (opposite) {
                write(-Token.OPPOSITE);
            }
            open--;
            return good;
        }

        private boolean readInside() {
            if (!readOrs() || token != Token.CLOSE) {
                return false;
            }
            look();
            return true;
        }

        private void write(int item) {
            if (length < code.length) {
                code[length] = item;
                length++;
            }
        }

        private void look() {
            while (place < size && (tape[place] == ' ' || tape[place] == '\n')) {
                place++;
            }
            start = place;
            if (place >= size) {
                token = Token.END;
            } else if (isLetter(tape[place])) {
                lookAtWord();
            } else if (isDigit(tape[place])) {
                lookAtDigits();
            } else {
                token = Token.isSign(tape[place]) ? tape[place] : Token.WRONG;
                place++;
            }
        }

        private void lookAtDigits() {
            digits = 0;
            while (place < size && isDigit(tape[place])) {
                // Too many of them are no number, so it does not matter that this may wrap.
                digits = digits * 10 + tape[place] - '0';
                place++;
            }
            token = place - start > MOST_DIGITS ? Token.WRONG : Token.DIGITS;
        }

        /** NAMES go by their places in Rules.name(). */
        private void lookAtWord() {
            while (place < size && isLetter(tape[place])) {
                place++;
            }
            if (isWord("tone")) {
                token = Token.FIRST_NAME;
            } else if (isWord("day")) {
                token = Token.FIRST_NAME + 1;
            } else if (isWord("number")) {
                token = Token.FIRST_NAME + 2;
            } else if (isWord("force")) {
                token = Token.FIRST_NAME + 3;
            } else if (isWord("mended")) {
                token = Token.FIRST_NAME + 4;
            } else if (isWord("seam")) {
                token = Token.FIRST_NAME + 5;
            } else if (isWord("says")) {
                token = Token.SAYS_KEY;
            } else if (isWord("slacks")) {
                token = Token.SLACKS_KEY;
            } else if (isWord("holds")) {
                token = Token.HOLDS_KEY;
            } else if (isWord("or")) {
                token = Token.OR;
            } else if (isWord("and")) {
                token = Token.AND;
            } else {
                token = isWord("not") ? Token.NOT : Token.WRONG;
            }
        }

        private boolean isWord(String word) {
            if (place - start != word.length()) {
                return false;
            }
            for (int i = 0; i < word.length(); i++) {
                if (tape[start + i] != word.charAt(i)) {
                    return false;
                }
            }
            return true;
        }

        private static boolean isLetter(int letter) {
            return letter >= 'a' && letter <= 'z';
        }

        private static boolean isDigit(int letter) {
            return letter >= '0' && letter <= '9';
        }
    }
}
