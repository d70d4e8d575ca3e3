/**
 * Names with sets of whole numbers, and rows that tie them together. Numbers that a row can't have
 * are taken out one by one, each with the few bounds of other names on which it rests.
 */
public final class LinearReach {
    public static final int NONE = -1000, OUTSIDE = -1001, STATE = -1002, ROOM = -1003;

    private static final int MAX_NAMES = 8;
    private static final int MAX_ROWS = 12;
    private static final int MAX_STEPS = 512;
    private static final int MAX_ROUNDS = 200;
    private static final int MAX_PLANS = 4000;
    private static final int MAX_RIGHT = 1000;
    private static final int MAX_FACTOR = 9;
    private static final int LOWEST = -32;
    private static final int HIGHEST = 31;

    private static final int AT_MOST = 0;
    private static final int JUST = 1;
    private static final int PRODUCT = 2;
    private static final int QUOTIENT = 3;
    private static final int AMOUNT = 4;
    private static final int GREATEST = 5;
    private static final int LEAST = 6;
    private static final int UNLIKE = 7;
    private static final int IF = 8;
    private static final int COUNT = 9;

    /** How many of a, b, c a kind has. */
    private static final int[] NAMES_OF_KIND = {0, 0, 3, 3, 2, 3, 3, 2, 1, 1};

    /** Stands for an a, b or c that a row's kind does not have: it is no name's number. */
    private static final int ABSENT = -1;

    private final Sets sets = new Sets();
    private final RowList rowList = new RowList();
    private final StepList taken = new StepList();
    private final Sifter sifter = new Sifter(sets, rowList, taken);
    private final PlanCounter planCounter = new PlanCounter(sets, rowList);

    public LinearReach() {
    }

    public int name(int low, int high) {
        if (!isNumber(low) || !isNumber(high) || low > high) {
            return OUTSIDE;
        }
        if (sets.count >= MAX_NAMES) {
            return ROOM;
        }
        sets.add(low, high);
        beginAnew();
        return sets.count - 1;
    }

    public int leave(int name, int number) {
        if (!isName(name) || !isNumber(number)) {
            return OUTSIDE;
        }
        long before = sets.first[name];
        if (before == bitOf(number)) {
            return STATE;
        }
        sets.leaveOut(name, number);
        beginAnew();
        return hasBit(before, number) ? 1 : 0;
    }

    public int row(int kind, int a, int b, int c, int right) {
        if (kind < 0 || kind >= NAMES_OF_KIND.length || right < -MAX_RIGHT || right > MAX_RIGHT) {
            return OUTSIDE;
        }
        int named = NAMES_OF_KIND[kind];
        if (!areDifferentNames(named, a, b, c)) {
            return OUTSIDE;
        }
        if (rowList.count >= MAX_ROWS) {
            return ROOM;
        }
        Row made = rowList.all[rowList.count];
        made.become(kind, right);
        made.tie(named >= 1 ? a : ABSENT, named >= 2 ? b : ABSENT, named >= 3 ? c : ABSENT);
        rowList.count++;
        beginAnew();
        return rowList.count - 1;
    }

    public int factor(int row, int name, int factor) {
        if (!isRow(row) || !isName(name) || factor < -MAX_FACTOR || factor > MAX_FACTOR) {
            return OUTSIDE;
        }
        Row changed = rowList.all[row];
        if (!changed.hasFactors() || changed.a == name) {
            return STATE;
        }
        int before = changed.factors[name];
        changed.factors[name] = factor;
        beginAnew();
        return before;
    }

    public int clear() {
        int before = sets.count;
        sets.count = 0;
        rowList.count = 0;
        beginAnew();
        return before;
    }

    public int run(int order, int rounds) {
        if (order < 0 || order > 1 || rounds < 1 || rounds > MAX_ROUNDS) {
            return OUTSIDE;
        }
        int done = 0;
        boolean resting = false;
        while (done < rounds && !resting && sifter.clashRow == NONE) {
            int before = taken.count;
            sifter.doOne(order == 1);
            resting = taken.count == before;
            done++;
        }
        return sifter.clashRow == NONE ? done : 0;
    }

    public int clash() {
        return sifter.clashRow;
    }

    public int has(int name, int number) {
        if (!isName(name)) {
            return OUTSIDE;
        }
        return isNumber(number) && hasBit(sets.now[name], number) ? 1 : 0;
    }

    public int end(int name, boolean most) {
        if (!isName(name)) {
            return OUTSIDE;
        }
        long set = sets.now[name];
        if (set == 0L) {
            return NONE;
        }
        return most ? mostOf(set) : leastOf(set);
    }

    public int size(int name) {
        return isName(name) ? Long.bitCount(sets.now[name]) : OUTSIDE;
    }

    public int steps() {
        return taken.count;
    }

    public int step(int i, int what) {
        if (!isStep(i)) {
            return OUTSIDE;
        }
        switch (what) {
            case 0:
                return taken.rows[i];
            case 1:
                return taken.names[i];
            case 2:
                return taken.numbers[i];
            case 3:
                return taken.rounds[i];
            default:
                return OUTSIDE;
        }
    }

    public int reason(int i) {
        return isStep(i) ? Integer.bitCount(taken.parts[i]) : OUTSIDE;
    }

    public int part(int i, int k) {
        return isStep(i) ? taken.partAt(i, k) : OUTSIDE;
    }

    public int told(int i, int k) {
        int part = part(i, k);
        int name = part / 2;
        if (part < 0 || !isName(name)) {
            return OUTSIDE;
        }
        // FIRST can't have changed since the step, so the set of that moment need not be kept.
        long set = taken.without(sets.first[name], name, i);
        return part % 2 == 1 ? mostOf(set) : leastOf(set);
    }

    public int plans() {
        long choices = sets.choices();
        if (choices > MAX_PLANS) {
            return NONE;
        }
        // Before the one empty set there may be seven full ones, too many to go through.
        return choices == 0L ? 0 : planCounter.countAll();
    }

    private void beginAnew() {
        sets.restore();
        taken.count = 0;
        sifter.forget();
    }

    private boolean isName(int name) {
        return name >= 0 && name < sets.count;
    }

    private boolean isRow(int row) {
        return row >= 0 && row < rowList.count;
    }

    private boolean isStep(int i) {
        return i >= 0 && i < taken.count;
    }

    /** Looks only at the first so many of a, b, c. */
    private boolean areDifferentNames(int named, int a, int b, int c) {
        if (named >= 1 && !isName(a)) {
            return false;
        }
        if (named >= 2 && (!isName(b) || b == a)) {
            return false;
        }
        return named < 3 || isName(c) && c != a && c != b;
    }

    private static boolean isNumber(int number) {
        return number >= LOWEST && number <= HIGHEST;
    }

    private static long bitOf(int number) {
        return 1L << (number - LOWEST);
    }

    private static boolean hasBit(long set, int number) {
        return (set & bitOf(number)) != 0L;
    }

    /** Of a set that is not empty. */
    private static int leastOf(long set) {
        return LOWEST + Long.numberOfTrailingZeros(set);
    }

    /** Of a set that is not empty. */
    private static int mostOf(long set) {
        return HIGHEST - Long.numberOfLeadingZeros(set);
    }

    /** LEAST and MOST of each name; the gaps between them are not looked at. */
    private static final class Spans {
        final int[] least = new int[MAX_NAMES];
        final int[] most = new int[MAX_NAMES];

        /** An empty set leaves the bounds as they were: after a clash no row looks at them. */
        void fit(int name, long set) {
            if (set != 0L) {
                least[name] = leastOf(set);
                most[name] = mostOf(set);
            }
        }

        void copy(Spans other) {
            System.arraycopy(other.least, 0, least, 0, MAX_NAMES);
            System.arraycopy(other.most, 0, most, 0, MAX_NAMES);
        }

        /** A part is a name times 2, and 1 for its MOST. */
        void copyPart(int part, Spans other) {
            int name = part / 2;
            if (part % 2 == 1) {
                most[name] = other.most[name];
            } else {
                least[name] = other.least[name];
            }
        }

        boolean covers(int name, int number) {
            return least[name] <= number && number <= most[name];
        }

        boolean isOnly(int name, int number) {
            return least[name] == number && most[name] == number;
        }

        boolean meets(int name, int low, int high) {
            return low <= high && low <= most[name] && least[name] <= high;
        }
    }

    /** The names' sets as they were told and as they are now; bit 0 is the lowest number. */
    private static final class Sets {
        int count = 0;
        final long[] first = new long[MAX_NAMES];
        final long[] now = new long[MAX_NAMES];
        final Spans firstSpans = new Spans();
        final Spans spans = new Spans();

        void add(int low, int high) {
            long upToHigh = -1L >>> (HIGHEST - high);
            long fromLow = -1L << (low - LOWEST);
            first[count] = upToHigh & fromLow;
            firstSpans.fit(count, first[count]);
            count++;
        }

        void leaveOut(int name, int number) {
            first[name] &= ~bitOf(number);
            firstSpans.fit(name, first[name]);
        }

        void takeOut(int name, int number) {
            now[name] &= ~bitOf(number);
            spans.fit(name, now[name]);
        }

        void restore() {
            System.arraycopy(first, 0, now, 0, MAX_NAMES);
            spans.copy(firstSpans);
        }

        /** The sizes times one another: 64 to the power of 8 at most. */
        long choices() {
            long product = 1L;
            for (int name = 0; name < count; name++) {
                product *= Long.bitCount(now[name]);
            }
            return product;
        }
    }

    /** The rows; all are made at once and used again after clear(). */
    private static final class RowList {
        int count = 0;
        final Row[] all = new Row[MAX_ROWS];

        RowList() {
            for (int i = 0; i < MAX_ROWS; i++) {
                all[i] = new Row();
            }
        }
    }

    /** One row: whether it holds, and whether a number is possible for it. */
    private static final class Row {
        int kind = AT_MOST;
        int a = ABSENT;
        int b = ABSENT;
        int c = ABSENT;
        int right = 0;
        final int[] factors = new int[MAX_NAMES];

        void become(int newKind, int newRight) {
            kind = newKind;
            right = newRight;
            for (int name = 0; name < MAX_NAMES; name++) {
                factors[name] = 0;
            }
        }

        void tie(int newA, int newB, int newC) {
            a = newA;
            b = newB;
            c = newC;
        }

        boolean hasFactors() {
            return kind == AT_MOST || kind == JUST || kind == IF || kind == COUNT;
        }

        boolean isAbout(int name) {
            return name == a || name == b || name == c || factors[name] != 0;
        }

        /** The last name that the row is about, or ABSENT. */
        int lastName() {
            int last = ABSENT;
            for (int name = 0; name < MAX_NAMES; name++) {
                if (isAbout(name)) {
                    last = name;
                }
            }
            return last;
        }

        boolean holds(int[] numbers) {
            switch (kind) {
                case AT_MOST:
                    return sumOf(numbers) <= right;
                case JUST:
                    return sumOf(numbers) == right;
                case PRODUCT:
                    return numbers[a] == numbers[b] * numbers[c];
                case QUOTIENT:
                    return numbers[c] != 0 && numbers[a] == Math.floorDiv(numbers[b], numbers[c]);
                case AMOUNT:
                    return numbers[a] == Math.abs(numbers[b]);
                case GREATEST:
                    return numbers[a] == Math.max(numbers[b], numbers[c]);
                case LEAST:
                    return numbers[a] == Math.min(numbers[b], numbers[c]);
                case UNLIKE:
                    return numbers[a] != numbers[b] + right;
                case IF:
                    return numbers[a] != 1 || sumOf(numbers) <= right;
                default:
                    return numbers[a] == countOf(numbers);
            }
        }

        private int sumOf(int[] numbers) {
            int sum = 0;
            for (int name = 0; name < MAX_NAMES; name++) {
                sum += factors[name] * numbers[name];
            }
            return sum;
        }

        private int countOf(int[] numbers) {
            int found = 0;
            for (int name = 0; name < MAX_NAMES; name++) {
                if (factors[name] != 0 && numbers[name] == right) {
                    found++;
                }
            }
            return found;
        }

        /**
         * Whether the row can hold with that number of a name that it is about. The last two are what
         * endOfOthers answers: it is the same for all numbers of the name.
         */
        boolean allows(int name, int number, Spans spans, int leastOthers, int mostOthers) {
            int own = factors[name] * number;
            switch (kind) {
                case AT_MOST:
                    return own + leastOthers <= right;
                case JUST:
                    return own + leastOthers <= right && own + mostOthers >= right;
                case PRODUCT:
                    return name == a ? allowsProduct(number, spans)
                            : allowsMultiplier(number, name == b ? c : b, spans);
                case QUOTIENT:
                    return name == a ? allowsQuotient(number, spans)
                            : name == b ? allowsDividend(number, spans) : allowsDivisor(number, spans);
                case AMOUNT:
                    return name == a
                            ? number >= 0 && (spans.covers(b, number) || spans.covers(b, -number))
                            : spans.covers(a, Math.abs(number));
                case GREATEST:
                    return name == a ? allowsGreatest(number, spans)
                            : allowsBesideGreatest(number, name == b ? c : b, spans);
                case LEAST:
                    return name == a ? allowsLeast(number, spans)
                            : allowsBesideLeast(number, name == b ? c : b, spans);
                case UNLIKE:
                    return name == a ? !spans.isOnly(b, number - right) : !spans.isOnly(a, number + right);
                case IF:
                    return (name == a ? number != 1 : !spans.isOnly(a, 1)) || own + leastOthers <= right;
                default:
                    return allowsInCount(name, number, spans, leastOthers, mostOthers);
            }
        }

        /** The least or the most that the other names with factors can give: a sum, or of COUNT how many. */
        int endOfOthers(int name, Spans spans, boolean most) {
            int sum = 0;
            for (int other = 0; other < MAX_NAMES; other++) {
                int factor = factors[other];
                if (other == name || factor == 0) {
                    continue;
                }
                if (kind == COUNT) {
                    boolean counts = most ? spans.covers(other, right) : spans.isOnly(other, right);
                    sum += counts ? 1 : 0;
                } else {
                    boolean ofMost = most == (factor > 0);
                    sum += factor * (ofMost ? spans.most[other] : spans.least[other]);
                }
            }
            return sum;
        }

        private boolean allowsProduct(int product, Spans spans) {
            for (int x = spans.least[b]; x <= spans.most[b]; x++) {
                if (x == 0 ? product == 0 : product % x == 0 && spans.covers(c, product / x)) {
                    return true;
                }
            }
            return false;
        }

        private boolean allowsMultiplier(int number, int other, Spans spans) {
            if (number == 0) {
                return spans.covers(a, 0);
            }
            // The signs are turned for a negative one, so that only a positive one divides.
            int divisor = Math.abs(number);
            int low = number > 0 ? spans.least[a] : -spans.most[a];
            int high = number > 0 ? spans.most[a] : -spans.least[a];
            int lowRoundedUp = -Math.floorDiv(-low, divisor);
            return spans.meets(other, lowRoundedUp, Math.floorDiv(high, divisor));
        }

        private boolean allowsQuotient(int quotient, Spans spans) {
            for (int x = spans.least[c]; x <= spans.most[c]; x++) {
                // Just the numbers from low to high, divided by x and rounded down, are the quotient.
                int low = x > 0 ? quotient * x : (quotient + 1) * x + 1;
                int high = x > 0 ? quotient * x + x - 1 : quotient * x;
                if (x != 0 && spans.meets(b, low, high)) {
                    return true;
                }
            }
            return false;
        }

        private boolean allowsDividend(int dividend, Spans spans) {
            for (int x = spans.least[c]; x <= spans.most[c]; x++) {
                if (x != 0 && spans.covers(a, Math.floorDiv(dividend, x))) {
                    return true;
                }
            }
            return false;
        }

        private boolean allowsDivisor(int divisor, Spans spans) {
            if (divisor == 0) {
                return false;
            }
            // From one dividend to the next the quotient moves by 1 at most, so none is left out between.
            int one = Math.floorDiv(spans.least[b], divisor);
            int another = Math.floorDiv(spans.most[b], divisor);
            return spans.meets(a, Math.min(one, another), Math.max(one, another));
        }

        private boolean allowsGreatest(int number, Spans spans) {
            return spans.covers(b, number) && spans.least[c] <= number
                    || spans.covers(c, number) && spans.least[b] <= number;
        }

        private boolean allowsBesideGreatest(int number, int other, Spans spans) {
            return spans.meets(a, Math.max(number, spans.least[other]), Math.max(number, spans.most[other]));
        }

        private boolean allowsLeast(int number, Spans spans) {
            return spans.covers(b, number) && spans.most[c] >= number
                    || spans.covers(c, number) && spans.most[b] >= number;
        }

        private boolean allowsBesideLeast(int number, int other, Spans spans) {
            return spans.meets(a, Math.min(number, spans.least[other]), Math.min(number, spans.most[other]));
        }

        private boolean allowsInCount(int name, int number, Spans spans, int leastOthers, int mostOthers) {
            if (name == a) {
                return leastOthers <= number && number <= mostOthers;
            }
            int own = number == right ? 1 : 0;
            return spans.meets(a, leastOthers + own, mostOthers + own);
        }
    }

    /** The numbers that were taken out, in their order, each with the parts of its reason as bits. */
    private static final class StepList {
        int count = 0;
        final int[] rows = new int[MAX_STEPS];
        final int[] names = new int[MAX_STEPS];
        final int[] numbers = new int[MAX_STEPS];
        final int[] rounds = new int[MAX_STEPS];
        final int[] parts = new int[MAX_STEPS];

        void add(int row, int name, int number, int round, int partBits) {
            if (count < MAX_STEPS) {
                rows[count] = row;
                names[count] = name;
                numbers[count] = number;
                rounds[count] = round;
                parts[count] = partBits;
                count++;
            }
        }

        /** The place of the k-th bit, from 0 on; OUTSIDE, if there is none. */
        int partAt(int i, int k) {
            int before = 0;
            for (int bit = 0; bit < 2 * MAX_NAMES; bit++) {
                if ((parts[i] >> bit & 1) == 1) {
                    if (before == k) {
                        return bit;
                    }
                    before++;
                }
            }
            return OUTSIDE;
        }

        /** A name's set without what the steps before that one took out of it. */
        long without(long set, int name, int before) {
            long rest = set;
            for (int i = 0; i < before; i++) {
                if (names[i] == name) {
                    rest &= ~bitOf(numbers[i]);
                }
            }
            return rest;
        }
    }

    /** Takes out what is impossible, and finds the reasons. */
    private static final class Sifter {
        int clashRow = NONE;
        private int round = 0;
        private final Sets sets;
        private final RowList rowList;
        private final StepList taken;
        private final Spans trial = new Spans();

        Sifter(Sets sets, RowList rowList, StepList taken) {
            this.sets = sets;
            this.rowList = rowList;
            this.taken = taken;
        }

        void forget() {
            clashRow = NONE;
            round = 0;
        }

        void doOne(boolean fromLast) {
            round++;
            for (int i = 0; i < rowList.count; i++) {
                int row = fromLast ? rowList.count - 1 - i : i;
                for (int name = 0; name < sets.count; name++) {
                    if (rowList.all[row].isAbout(name)) {
                        sift(row, name);
                    }
                    if (clashRow != NONE) {
                        return;
                    }
                }
            }
        }

        private void sift(int row, int name) {
            Row asked = rowList.all[row];
            Spans spans = sets.spans;
            int leastOthers = asked.endOfOthers(name, spans, false);
            int mostOthers = asked.endOfOthers(name, spans, true);
            int most = spans.most[name];
            for (int number = spans.least[name]; number <= most; number++) {
                if (hasBit(sets.now[name], number)
                        && !asked.allows(name, number, spans, leastOthers, mostOthers)) {
                    taken.add(row, name, number, round, findReason(asked, name, number));
                    sets.takeOut(name, number);
                }
            }
            if (sets.now[name] == 0L) {
                clashRow = row;
            }
        }

        /**
         * The parts that can't be left out, as bits. With what the trial holds the number stays
         * impossible; so a bound that is FIRST's own is never kept.
         */
        private int findReason(Row row, int name, int number) {
            int parts = 0;
            trial.copy(sets.spans);
            for (int part = 2 * sets.count - 1; part >= 0; part--) {
                int other = part / 2;
                if (other == name || !row.isAbout(other)) {
                    continue;
                }
                trial.copyPart(part, sets.firstSpans);
                int leastOthers = row.endOfOthers(name, trial, false);
                int mostOthers = row.endOfOthers(name, trial, true);
                if (row.allows(name, number, trial, leastOthers, mostOthers)) {
                    trial.copyPart(part, sets.spans);
                    parts |= 1 << part;
                }
            }
            return parts;
        }
    }

    /** Goes through all choices of a number for each name, while no set is empty. */
    private static final class PlanCounter {
        private final Sets sets;
        private final RowList rowList;
        private final int[] chosen = new int[MAX_NAMES];
        private final int[] lastNames = new int[MAX_ROWS];

        PlanCounter(Sets sets, RowList rowList) {
            this.sets = sets;
            this.rowList = rowList;
        }

        int countAll() {
            for (int i = 0; i < rowList.count; i++) {
                lastNames[i] = rowList.all[i].lastName();
            }
            return rowsHoldWith(ABSENT) ? countFrom(0) : 0;
        }

        private int countFrom(int name) {
            if (name >= sets.count) {
                return 1;
            }
            int found = 0;
            for (int number = sets.spans.least[name]; number <= sets.spans.most[name]; number++) {
                if (hasBit(sets.now[name], number)) {
                    chosen[name] = number;
                    found += rowsHoldWith(name) ? countFrom(name + 1) : 0;
                }
            }
            return found;
        }

        /** Only of the rows whose last name this is: the others have been looked at, or will be. */
        private boolean rowsHoldWith(int name) {
            for (int i = 0; i < rowList.count; i++) {
                if (lastNames[i] == name && !rowList.all[i].holds(chosen)) {
                    return false;
                }
            }
            return true;
        }
    }
}
