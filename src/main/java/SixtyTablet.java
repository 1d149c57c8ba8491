/**
 * Numbers by sixties as they are pressed in clay, with tables, workings, slips, broken tablets, problems and units.
 *
 * No call makes an object: all rows are made with the tablet and used again.
 */
public final class SixtyTablet {
    public static final int NONE = -6, UNKNOWN = -1, OUTSIDE = -2, STATE = -3, FULL = -4, NO = -5;
    /** What is told of numbers that are refused: LOST and the refusal. */
    public static final long LOST = -1000000000000000000L;

    private static final int HOW_MANY = -1;
    private static final int TABLETS = 4;
    private static final int MOST_STEPS = 5;
    private static final int LEAST_STEP = 2;
    private static final int GREATEST_STEP = 100;
    private static final int GREATEST_IN_PROBLEM = 1000000;
    private static final int GREATEST_P = 12;

    private final Working working;
    private final Tablet[] tablets;
    private final Search search;
    private final int[] steps;
    private int stepCount;

    public SixtyTablet() {
        working = new Working();
        search = new Search();
        steps = new int[MOST_STEPS];
        stepCount = 0;
        tablets = new Tablet[TABLETS];
        for (int t = 0; t < tablets.length; t++) {
            tablets[t] = new Tablet();
        }
    }

    // ---- 1 sixties

    public long sixty(long v) {
        return Sixties.isNumber(v) ? Sixties.strip(v) : LOST + OUTSIDE;
    }

    public int digit(long v, int i) {
        if (!Sixties.isNumber(v)) {
            return OUTSIDE;
        }
        long stripped = Sixties.strip(v);
        int length = Sixties.length(stripped);
        if (i == HOW_MANY) {
            return length;
        }
        return i >= 0 && i < length ? Sixties.digitAhead(stripped, length - 1 - i) : NONE;
    }

    public int sight(long v, int i) {
        if (!Sixties.isNumber(v)) {
            return OUTSIDE;
        }
        int found = 0;
        for (int behind = Sixties.length(v) - 1; behind >= 0; behind--) {
            int pressed = Sixties.digitAhead(v, behind);
            if (pressed != 0) {
                if (found == i) {
                    return pressed;
                }
                found++;
            }
        }
        return i == HOW_MANY ? found : NONE;
    }

    public long like(long v, int d, int i) {
        if (!Sixties.isNumber(v) || d < 1 || d > Sixties.MOST_DIGITS) {
            return LOST + OUTSIDE;
        }
        int pressed = Sixties.sightLength(v);
        int found = 0;
        // A mask tells which places are not empty; masks in their order give the numbers in theirs.
        for (int mask = 1; mask < 1 << d; mask += 2) {
            if (Integer.bitCount(mask) == pressed) {
                if (found == i) {
                    return Sixties.spread(v, mask);
                }
                found++;
            }
        }
        return i == HOW_MANY ? found : LOST + NONE;
    }

    public long put(long x, long y, int k) {
        if (!Sixties.isNumber(x) || !Sixties.isNumber(y) || k < 1 - Sixties.MOST_DIGITS || k > Sixties.MOST_DIGITS - 1) {
            return LOST + OUTSIDE;
        }
        long together = k < 0 ? Sixties.raise(x, -k) + y : x + Sixties.raise(y, k);
        return together < Sixties.END ? Sixties.strip(together) : LOST + FULL;
    }

    // ---- 2 turned over

    public int even(long v) {
        if (!Sixties.isNumber(v)) {
            return OUTSIDE;
        }
        return Turning.isEven(v) ? 1 : 0;
    }

    public long turned(long v) {
        if (!Sixties.isNumber(v)) {
            return LOST + OUTSIDE;
        }
        if (!Turning.isEven(v)) {
            return LOST + NO;
        }
        long over = Turning.turnOver(v);
        return over < Sixties.END ? over : LOST + FULL;
    }

    public int list(int i) {
        if (i == HOW_MANY) {
            return Turning.listRows();
        }
        return i >= 0 && i < Turning.listRows() ? Turning.listed(i) : UNKNOWN;
    }

    public int factor(long v, int i) {
        if (!Sixties.isNumber(v)) {
            return OUTSIDE;
        }
        if (!Turning.isEven(v)) {
            return NO;
        }
        long left = Sixties.strip(v);
        int found = 0;
        for (int step = 0; step < Turning.MOST_FACTORS && left > 1; step++) {
            int parts = Turning.greatestListed(left);
            if (found == i) {
                return parts;
            }
            found++;
            left = parts > 1 ? Sixties.strip(left / parts) : 1;
        }
        return i == HOW_MANY ? found : NONE;
    }

    public long root(long v, int p) {
        if (!Sixties.isNumber(v) || p < 0 || p > 3) {
            return LOST + OUTSIDE;
        }
        long raised = v;
        for (int i = 0; i < p; i++) {
            if (raised >= Sixties.END) {
                return LOST + FULL;
            }
            raised *= Sixties.BASE * Sixties.BASE;
        }
        return Sixties.floorRoot(raised);
    }

    // ---- 3 workings

    public int times(long x, long y) {
        if (x < 1 || x >= Working.END || y < 1 || y >= Working.END) {
            return OUTSIDE;
        }
        working.begin(x, y);
        return working.lineCount();
    }

    public int line(int i, int what) {
        if (!working.hasLine(i)) {
            return UNKNOWN;
        }
        switch (what) {
            case 0:
                return working.product(i);
            case 1:
                return working.place(i);
            case 2:
                return working.digitOfX(i);
            case 3:
                return working.digitOfY(i);
            default:
                return OUTSIDE;
        }
    }

    public long sum(int i) {
        return working.hasLine(i) ? working.sumUpTo(i) : LOST + UNKNOWN;
    }

    public long slip(int i, int kind, int which, int j) {
        if (!working.hasLine(i) || !working.hasLine(j)) {
            return LOST + UNKNOWN;
        }
        if (kind < 0 || kind >= Working.KINDS || which < 0 || which >= Working.WHICHES) {
            return LOST + OUTSIDE;
        }
        long written = working.slipped(i, kind, which);
        if (written == Working.NO_SLIP) {
            return LOST + NO;
        }
        long without = working.sumUpTo(j);
        return j < i ? without : without - working.worth(i) + written;
    }

    public int blame(long e, int n) {
        if (working.lineCount() == 0) {
            return STATE;
        }
        long end = working.sumUpTo(working.lineCount() - 1);
        int found = 0;
        for (int code = 0; code < working.lineCount() * Working.SLIPS; code++) {
            int i = code / Working.SLIPS;
            int kind = code % Working.SLIPS / Working.WHICHES;
            int which = code % Working.WHICHES;
            long written = working.slipped(i, kind, which);
            if (written != Working.NO_SLIP && e != end && end - working.worth(i) + written == e) {
                if (found == n) {
                    return 100 * i + 10 * kind + which;
                }
                found++;
            }
        }
        return n == HOW_MANY ? found : NONE;
    }

    // ---- 4 tablets

    public int tablet(int t, int rows) {
        Tablet clay = clayOf(t);
        if (clay == null) {
            return UNKNOWN;
        }
        if (rows < 1 || rows > Tablet.MOST_ROWS) {
            return OUTSIDE;
        }
        clay.smooth(rows);
        return 1;
    }

    public int press(int t, int row, int column, int v) {
        Tablet clay = clayOf(t);
        if (clay == null || !clay.hasCell(row, column)) {
            return UNKNOWN;
        }
        if (v < 0 || v > Tablet.GREATEST) {
            return OUTSIDE;
        }
        int before = clay.held(row, column);
        clay.hold(row, column, v);
        return before;
    }

    public int cell(int t, int row, int column) {
        Tablet clay = clayOf(t);
        return clay != null && clay.hasCell(row, column) ? clay.held(row, column) : UNKNOWN;
    }

    public int copy(int t, int kind, int n, int first, int rows) {
        Tablet clay = clayOf(t);
        if (clay == null) {
            return UNKNOWN;
        }
        if (!Table.isTable(kind, n) || rows < 1 || rows > Tablet.MOST_ROWS) {
            return OUTSIDE;
        }
        if (first < 0 || first > Table.rowsOf(kind) - rows) {
            return NO;
        }
        clay.smooth(rows);
        for (int row = 0; row < rows; row++) {
            for (int column = 0; column < Tablet.COLUMNS; column++) {
                clay.hold(row, column, Table.number(kind, n, first + row, column));
            }
        }
        return rows;
    }

    public int reading(int t, int i) {
        Tablet clay = clayOf(t);
        if (clay == null) {
            return UNKNOWN;
        }
        int found = 0;
        search.begin(clay);
        for (int step = 0; step < Search.MOST_STEPS && search.nextReading(); step++) {
            if (found == i) {
                return search.code();
            }
            found++;
        }
        return i == HOW_MANY ? found : NONE;
    }

    public int sure(int t, int row, int column) {
        Tablet clay = clayOf(t);
        if (clay == null || !clay.hasCell(row, column)) {
            return UNKNOWN;
        }
        search.gatherSure(clay);
        return search.sureIn(row, column);
    }

    public int fill(int t) {
        Tablet clay = clayOf(t);
        if (clay == null) {
            return UNKNOWN;
        }
        search.gatherSure(clay);
        int filled = 0;
        for (int row = 0; row < clay.rowCount(); row++) {
            for (int column = 0; column < Tablet.COLUMNS; column++) {
                int certain = search.sureIn(row, column);
                if (certain != 0 && clay.held(row, column) == 0) {
                    clay.hold(row, column, certain);
                    filled++;
                }
            }
        }
        return filled;
    }

    public int odd(int t) {
        Tablet clay = clayOf(t);
        if (clay == null) {
            return UNKNOWN;
        }
        int found = NONE;
        search.begin(clay);
        for (int step = 0; step < Search.MOST_STEPS && search.nextPlace(); step++) {
            int stray = search.strayRow();
            if (stray == Search.ALL_AGREE) {
                return NONE;
            }
            if (found == NONE && stray != Search.MANY_STRAY) {
                found = stray;
            }
        }
        return found;
    }

    public int triple(int t, int row, int i) {
        Tablet clay = clayOf(t);
        if (clay == null || !clay.hasCell(row, 0)) {
            return UNKNOWN;
        }
        int found = 0;
        for (int p = 2; p <= GREATEST_P; p++) {
            for (int q = 1; q < p; q++) {
                if (makesTriple(p, q) && mayBeTriple(clay, row, p, q)) {
                    if (found == i) {
                        return 100 * p + q;
                    }
                    found++;
                }
            }
        }
        return i == HOW_MANY ? found : NONE;
    }

    public int join(int t, int u, int s) {
        Tablet upper = clayOf(t);
        Tablet lower = clayOf(u);
        if (upper == null || lower == null || t == u) {
            return UNKNOWN;
        }
        if (s < 0 || s >= Tablet.MOST_ROWS) {
            return OUTSIDE;
        }
        if (s > upper.rowCount()) {
            return STATE;
        }
        if (s + lower.rowCount() > Tablet.MOST_ROWS) {
            return FULL;
        }
        if (!upper.fits(lower, s)) {
            return NO;
        }
        upper.take(lower, s);
        return upper.rowCount();
    }

    // ---- 5 problems, units

    public long problem(int kind, int x, int y, int part) {
        if (kind < 0 || kind > 5 || !isInProblem(x) || !isInProblem(y) || part < 0 || part > 1) {
            return LOST + OUTSIDE;
        }
        switch (kind) {
            case 1:
                return onlyAnswer(share(x, y), part);
            case 2:
                return onlyAnswer(wholeRoot(x), part);
            case 3:
                return sideOf(wholeRoot((long) x * x - 4L * y), x, part);
            case 4:
                return sideOf(x, wholeRoot((long) x * x + 4L * y), part);
            default:
                return onlyAnswer((long) x * y, part);
        }
    }

    public int unit(int many) {
        if (many < LEAST_STEP || many > GREATEST_STEP) {
            return OUTSIDE;
        }
        if (stepCount < 0 || stepCount >= steps.length) {
            return FULL;
        }
        steps[stepCount] = many;
        stepCount++;
        return stepCount;
    }

    public int wipe() {
        int before = stepCount;
        stepCount = 0;
        return before;
    }

    public long units(long v, int i) {
        if (i < 0 || i > stepCount) {
            return LOST + UNKNOWN;
        }
        if (v < 0 || v >= Sixties.END) {
            return LOST + OUTSIDE;
        }
        long left = v;
        for (int step = 0; step < i && step < steps.length; step++) {
            left = steps[step] > 0 ? left / steps[step] : left;
        }
        return i < stepCount && i < steps.length && steps[i] > 0 ? left % steps[i] : left;
    }

    public int told(int what) {
        if (what < 0 || what >= 2 + 2 * TABLETS) {
            return OUTSIDE;
        }
        if (what == 0) {
            return working.lineCount();
        }
        if (what == 1) {
            return stepCount;
        }
        Tablet clay = clayOf((what - 2) % TABLETS);
        if (clay == null) {
            return OUTSIDE;
        }
        return what < 2 + TABLETS ? clay.rowCount() : clay.brokenCells();
    }

    // ---- what the calls share

    private Tablet clayOf(int t) {
        return t >= 0 && t < tablets.length ? tablets[t] : null;
    }

    private static boolean makesTriple(int p, int q) {
        // One odd and one even: their sum is odd.
        if ((p + q) % 2 == 0) {
            return false;
        }
        for (int d = 2; d <= q; d++) {
            if (p % d == 0 && q % d == 0) {
                return false;
            }
        }
        return true;
    }

    private static boolean mayBeTriple(Tablet clay, int row, int p, int q) {
        int one = p * p - q * q;
        int other = 2 * p * q;
        return clay.mayBe(row, 0, Math.min(one, other))
            && clay.mayBe(row, 1, Math.max(one, other))
            && clay.mayBe(row, 2, p * p + q * q);
    }

    private static boolean isInProblem(int v) {
        return v >= 1 && v <= GREATEST_IN_PROBLEM;
    }

    /** The answer of a problem that has but one; what is not above 0 is none. */
    private static long onlyAnswer(long answer, int part) {
        if (answer <= 0) {
            return LOST + NO;
        }
        return part == 0 ? answer : 0;
    }

    /** The length or the width, by how much they differ and what they are together; 0 or less: none. */
    private static long sideOf(long apart, long together, int part) {
        if (apart < 0 || together <= apart || (together - apart) % 2 != 0) {
            return LOST + NO;
        }
        return part == 0 ? (together + apart) / 2 : (together - apart) / 2;
    }

    /** The whole root of v, or -1 if v has none. */
    private static long wholeRoot(long v) {
        if (v < 0) {
            return -1;
        }
        long r = Sixties.floorRoot(v);
        return r * r == v ? r : -1;
    }

    /** x times what y is turned over, as a sixty; 0 if it can't be told. */
    private static long share(long x, long y) {
        if (!Turning.isEven(y)) {
            return 0;
        }
        long over = Turning.turnOver(y);
        long many = Sixties.strip(x);
        if (over >= Sixties.END || many < 1 || over > (Sixties.END - 1) / many) {
            return 0;
        }
        return Sixties.strip(over * many);
    }

    /** Numbers by sixties, their digits counted from the last one on. */
    private static final class Sixties {
        static final int BASE = 60;
        static final int MOST_DIGITS = 8;
        /** 60 to the 8: the first number that is too great. */
        static final long END = 167961600000000L;
        private static final long LAST_PLACE = END / BASE;
        /** 60 to the 5: its square is above all that a root is taken of. */
        private static final long ROOT_END = 777600000L;
        private static final int ROOT_STEPS = 31;

        static boolean isNumber(long v) {
            return v >= 1 && v < END;
        }

        static long strip(long v) {
            long left = v;
            for (int i = 0; i < MOST_DIGITS && left % BASE == 0; i++) {
                left /= BASE;
            }
            return left;
        }

        static int length(long v) {
            int digits = 0;
            long left = v;
            for (int i = 0; i < MOST_DIGITS && left > 0; i++) {
                left /= BASE;
                digits++;
            }
            return digits;
        }

        /** The digit that has so many behind it. */
        static int digitAhead(long v, int behind) {
            long left = v;
            for (int i = 0; i < behind && i < MOST_DIGITS; i++) {
                left /= BASE;
            }
            return (int) (left % BASE);
        }

        static int sightLength(long v) {
            int pressed = 0;
            long left = v;
            for (int i = 0; i < MOST_DIGITS && left > 0; i++) {
                if (left % BASE != 0) {
                    pressed++;
                }
                left /= BASE;
            }
            return pressed;
        }

        /** The sight of v with its digits in the places that the mask has, the last one lowest. */
        static long spread(long v, int mask) {
            long left = strip(v);
            long worth = 1;
            long spread = 0;
            for (int place = 0; place < MOST_DIGITS; place++) {
                if ((mask >> place & 1) == 1) {
                    spread += left % BASE * worth;
                    left = strip(left / BASE);
                }
                worth *= BASE;
            }
            return spread;
        }

        /** v times 60 to the places, but END for all that is END or more. */
        static long raise(long v, int places) {
            long raised = v;
            for (int i = 0; i < places; i++) {
                raised = raised >= LAST_PLACE ? END : raised * BASE;
            }
            return raised;
        }

        /** v times 60 to the places of a working (0 to 6), which a slip may bring above END. */
        static long atPlace(long v, int places) {
            long worth = v;
            for (int i = 0; i < places && i < MOST_DIGITS; i++) {
                worth *= BASE;
            }
            return worth;
        }

        /** The greatest r with r r not above v, v being below 60 to the 10. */
        static long floorRoot(long v) {
            long low = 0;
            long high = ROOT_END;
            for (int i = 0; i < ROOT_STEPS && high - low > 1; i++) {
                long middle = (low + high) / 2;
                if (middle * middle <= v) {
                    low = middle;
                } else {
                    high = middle;
                }
            }
            return low;
        }
    }

    /** Even numbers, the list, and turning over. */
    private static final class Turning {
        private static final int[] LIST = {
            2, 3, 4, 5, 6, 8, 9, 10, 12, 15, 16, 18, 20, 24, 25, 27, 30, 32, 36, 40, 45, 48, 50, 54, 64, 72, 75, 80, 81
        };
        /** What they are turned over: written out, as a search looks at them thousands of times, from calls deep. */
        private static final int[] LIST_OVER = {
            30, 20, 15, 12, 10, 450, 400, 6, 5, 4, 225, 200, 3, 150, 144, 8000, 2, 6750, 100, 90, 80, 75, 72, 4000,
            3375, 50, 48, 45, 160000
        };
        /** Each factor is 2 or more, and a number has less than 48 bits. */
        static final int MOST_FACTORS = 48;
        private static final int MOST_POWER = 63;

        static int listRows() {
            return LIST.length;
        }

        static int listed(int row) {
            return row >= 0 && row < LIST.length ? LIST[row] : 1;
        }

        static int listedOver(int row) {
            return row >= 0 && row < LIST_OVER.length ? LIST_OVER[row] : 1;
        }

        static boolean isEven(long v) {
            return without(without(without(v, 2), 3), 5) == 1;
        }

        /** What v is turned over, v being even; END if it is END or more. */
        static long turnOver(long v) {
            int twos = powerIn(v, 2);
            int threes = powerIn(v, 3);
            int fives = powerIn(v, 5);
            // The least power of 60 that v parts: 60 has two twos, a three and a five.
            int power = Math.max((twos + 1) / 2, Math.max(threes, fives));
            long over = grown(1, 2, 2 * power - twos);
            over = grown(over, 3, power - threes);
            return grown(over, 5, power - fives);
        }

        /** The greatest number of the list that parts v; 1 if none does. */
        static int greatestListed(long v) {
            for (int row = LIST.length - 1; row >= 0; row--) {
                int parts = LIST[row];
                if (parts > 1 && v % parts == 0) {
                    return parts;
                }
            }
            return 1;
        }

        private static int powerIn(long v, int prime) {
            int power = 0;
            long left = v;
            for (int i = 0; i < MOST_POWER && prime > 1 && left % prime == 0; i++) {
                left /= prime;
                power++;
            }
            return power;
        }

        private static long without(long v, int prime) {
            long left = v;
            for (int i = 0; i < MOST_POWER && prime > 1 && left % prime == 0; i++) {
                left /= prime;
            }
            return left;
        }

        private static long grown(long v, int prime, int times) {
            long product = v;
            for (int i = 0; i < times; i++) {
                product = Math.min(Sixties.END, product * prime);
            }
            return product;
        }
    }

    /** The lines of a working; none, if there is no working. */
    private static final class Working {
        /** 60 to the 4: the first number that is too great. */
        static final long END = 12960000L;
        static final int KINDS = 4;
        static final int WHICHES = 2;
        static final int SLIPS = KINDS * WHICHES;
        static final long NO_SLIP = -1;
        private static final int MOST_LINES = 16;

        private final int[] ofX;
        private final int[] ofY;
        private final int[] places;
        private int lines;

        Working() {
            ofX = new int[MOST_LINES];
            ofY = new int[MOST_LINES];
            places = new int[MOST_LINES];
            lines = 0;
        }

        void begin(long x, long y) {
            lines = 0;
            for (int i = Sixties.length(x) - 1; i >= 0; i--) {
                for (int j = Sixties.length(y) - 1; j >= 0; j--) {
                    write(Sixties.digitAhead(x, i), Sixties.digitAhead(y, j), i + j);
                }
            }
        }

        private void write(int digitOfX, int digitOfY, int place) {
            if (digitOfX == 0 || digitOfY == 0 || lines < 0 || lines >= MOST_LINES) {
                return;
            }
            ofX[lines] = digitOfX;
            ofY[lines] = digitOfY;
            places[lines] = place;
            lines++;
        }

        int lineCount() {
            return lines;
        }

        boolean hasLine(int i) {
            return i >= 0 && i < lines && i < MOST_LINES;
        }

        int digitOfX(int i) {
            return hasLine(i) ? ofX[i] : 0;
        }

        int digitOfY(int i) {
            return hasLine(i) ? ofY[i] : 0;
        }

        int place(int i) {
            return hasLine(i) ? places[i] : 0;
        }

        int product(int i) {
            return digitOfX(i) * digitOfY(i);
        }

        /** Line i times 60 to its place. */
        long worth(int i) {
            return Sixties.atPlace(product(i), place(i));
        }

        long sumUpTo(int last) {
            long all = 0;
            for (int i = 0; i <= last && i < MOST_LINES; i++) {
                all += worth(i);
            }
            return all;
        }

        /** What line i is worth with a slip, or NO_SLIP if there is no such slip there. */
        long slipped(int i, int kind, int which) {
            switch (kind) {
                case 0:
                    return leftOut(i, which);
                case 1:
                    return placeLost(i, which);
                case 2:
                    return rowBeside(i, which);
                case 3:
                    return writtenTwice(i, which);
                default:
                    return NO_SLIP;
            }
        }

        private long leftOut(int i, int which) {
            int a = product(i) / Sixties.BASE;
            int b = product(i) % Sixties.BASE;
            if (a == 0 || which == 1 && b == 0) {
                return NO_SLIP;
            }
            return Sixties.atPlace(which == 0 ? b : a, place(i));
        }

        private long placeLost(int i, int which) {
            return which == 0 && place(i) > 0 ? Sixties.atPlace(product(i), place(i) - 1) : NO_SLIP;
        }

        private long rowBeside(int i, int which) {
            int beside = which == 0 ? digitOfY(i) - 1 : digitOfY(i) + 1;
            if (beside < 1 || beside >= Sixties.BASE) {
                return NO_SLIP;
            }
            return Sixties.atPlace((long) digitOfX(i) * beside, place(i));
        }

        private long writtenTwice(int i, int which) {
            int a = product(i) / Sixties.BASE;
            int b = product(i) % Sixties.BASE;
            int again = which == 0 ? a : b;
            if (again == 0) {
                return NO_SLIP;
            }
            return Sixties.atPlace((a * Sixties.BASE + again) * Sixties.BASE + b, place(i));
        }
    }

    /** The tables of the four kinds. */
    private static final class Table {
        static final int KINDS = 4;
        static final int TIMES = 0;
        static final int LIST = 1;
        static final int SQUARES = 2;
        static final int CUBES = 3;
        static final int GREATEST_N = 59;
        private static final int CUBE_ROWS = 40;

        static boolean isTable(int kind, int n) {
            if (kind == TIMES) {
                return n >= 1 && n <= GREATEST_N;
            }
            return kind > TIMES && kind < KINDS && n == 0;
        }

        static int rowsOf(int kind) {
            switch (kind) {
                case LIST:
                    return Turning.listRows();
                case CUBES:
                    return CUBE_ROWS;
                default:
                    return GREATEST_N;
            }
        }

        static int number(int kind, int n, int row, int column) {
            int k = row + 1;
            switch (kind) {
                case TIMES:
                    return column == 0 ? n : column == 1 ? k : n * k;
                case LIST:
                    return column == 0 ? Turning.listed(row) : column == 1 ? Turning.listedOver(row) : 1;
                case SQUARES:
                    return column < 2 ? k : k * k;
                default:
                    return column == 0 ? k : column == 1 ? k * k : k * k * k;
            }
        }
    }

    /** A tablet: its cells behind its rows are broken, too. */
    private static final class Tablet {
        static final int MOST_ROWS = 8;
        static final int COLUMNS = 3;
        static final int CELLS = MOST_ROWS * COLUMNS;
        /** 60 to the 4, less 1. */
        static final int GREATEST = 12959999;

        private final int[] cells;
        private final int[] sixties;
        private int rows;

        Tablet() {
            cells = new int[CELLS];
            sixties = new int[CELLS];
            rows = 1;
        }

        int rowCount() {
            return rows;
        }

        boolean hasCell(int row, int column) {
            return row >= 0 && row < rows && column >= 0 && column < COLUMNS;
        }

        void smooth(int newRows) {
            rows = newRows;
            for (int c = 0; c < CELLS; c++) {
                cells[c] = 0;
                sixties[c] = 0;
            }
        }

        void hold(int row, int column, int v) {
            int c = row * COLUMNS + column;
            if (c >= 0 && c < CELLS) {
                cells[c] = v;
                sixties[c] = v == 0 ? 0 : (int) Sixties.strip(v);
            }
        }

        int held(int row, int column) {
            int c = row * COLUMNS + column;
            return c >= 0 && c < CELLS ? cells[c] : 0;
        }

        /** The sixty of what a cell holds; 0 if it is broken. */
        int heldSixty(int row, int column) {
            int c = row * COLUMNS + column;
            return c >= 0 && c < CELLS ? sixties[c] : 0;
        }

        /** Whether a cell is broken or agrees with a number. */
        boolean mayBe(int row, int column, int number) {
            int mine = heldSixty(row, column);
            return mine == 0 || mine == Sixties.strip(number);
        }

        int brokenCells() {
            int broken = 0;
            for (int c = 0; c < rows * COLUMNS && c < CELLS; c++) {
                if (cells[c] == 0) {
                    broken++;
                }
            }
            return broken;
        }

        boolean fits(Tablet lower, int at) {
            for (int row = 0; row < lower.rows; row++) {
                for (int column = 0; column < COLUMNS; column++) {
                    int theirs = lower.heldSixty(row, column);
                    int mine = heldSixty(at + row, column);
                    if (theirs != 0 && mine != 0 && theirs != mine) {
                        return false;
                    }
                }
            }
            return true;
        }

        void take(Tablet lower, int at) {
            rows = Math.min(MOST_ROWS, Math.max(rows, at + lower.rows));
            for (int row = 0; row < lower.rows; row++) {
                for (int column = 0; column < COLUMNS; column++) {
                    if (held(at + row, column) == 0) {
                        hold(at + row, column, lower.held(row, column));
                    }
                }
            }
        }
    }

    /** Goes through the places of all tables at which a tablet may lie, by kind, n and first row. */
    private static final class Search {
        static final int ALL_AGREE = -1;
        static final int MANY_STRAY = -2;
        /** Above the places of a tablet of one row: 59 times 59, 29, 59, 40. */
        static final int MOST_STEPS = 4000;

        /** The cells that are not broken, by rows: only they can disagree, and there are thousands of places. */
        private final int[] heldRows;
        private final int[] heldColumns;
        private final int[] heldSixties;
        private final int[] certain;
        private int heldCount;
        private int rows;
        private int kind;
        private int n;
        private int first;

        Search() {
            heldRows = new int[Tablet.CELLS];
            heldColumns = new int[Tablet.CELLS];
            heldSixties = new int[Tablet.CELLS];
            certain = new int[Tablet.CELLS];
            heldCount = 0;
            rows = 1;
            kind = Table.TIMES;
            n = 1;
            first = -1;
        }

        /** Stands ahead of the first place for a tablet. */
        void begin(Tablet clay) {
            kind = Table.TIMES;
            n = 1;
            first = -1;
            rows = clay.rowCount();
            heldCount = 0;
            for (int c = 0; c < rows * Tablet.COLUMNS && c < Tablet.CELLS; c++) {
                int row = c / Tablet.COLUMNS;
                int column = c % Tablet.COLUMNS;
                if (clay.held(row, column) != 0 && heldCount >= 0 && heldCount < Tablet.CELLS) {
                    heldRows[heldCount] = row;
                    heldColumns[heldCount] = column;
                    heldSixties[heldCount] = clay.heldSixty(row, column);
                    heldCount++;
                }
            }
        }

        /** Goes on to the next place; false if there is none. */
        boolean nextPlace() {
            first++;
            if (first + rows <= Table.rowsOf(kind)) {
                return true;
            }
            first = 0;
            if (kind == Table.TIMES && n < Table.GREATEST_N) {
                n++;
                return true;
            }
            kind++;
            n = 0;
            return kind < Table.KINDS;
        }

        boolean nextReading() {
            for (int step = 0; step < MOST_STEPS && nextPlace(); step++) {
                if (strayRow() == ALL_AGREE) {
                    return true;
                }
            }
            return false;
        }

        int code() {
            return 10000 * kind + 100 * n + first;
        }

        /** The only row that does not agree here, or ALL_AGREE, or MANY_STRAY. */
        int strayRow() {
            int stray = ALL_AGREE;
            for (int h = 0; h < heldCount && h < Tablet.CELLS; h++) {
                int row = heldRows[h];
                if (row != stray && heldSixties[h] != sixtyHere(row, heldColumns[h])) {
                    if (stray != ALL_AGREE) {
                        return MANY_STRAY;
                    }
                    stray = row;
                }
            }
            return stray;
        }

        private int sixtyHere(int row, int column) {
            return (int) Sixties.strip(Table.number(kind, n, first + row, column));
        }

        /** Finds what all readings of a tablet agree in, for sureIn. */
        void gatherSure(Tablet clay) {
            for (int c = 0; c < Tablet.CELLS; c++) {
                certain[c] = 0;
            }
            begin(clay);
            boolean open = nextReading();
            if (open) {
                takeAll();
            }
            for (int step = 0; step < MOST_STEPS && open; step++) {
                open = nextReading() && keepAgreed();
            }
        }

        int sureIn(int row, int column) {
            int c = row * Tablet.COLUMNS + column;
            return c >= 0 && c < Tablet.CELLS ? certain[c] : 0;
        }

        private void takeAll() {
            for (int c = 0; c < rows * Tablet.COLUMNS && c < Tablet.CELLS; c++) {
                certain[c] = sixtyHere(c / Tablet.COLUMNS, c % Tablet.COLUMNS);
            }
        }

        /** Keeps what this reading agrees in, too; false if no broken cell is sure any more. */
        private boolean keepAgreed() {
            int kept = 0;
            for (int c = 0; c < rows * Tablet.COLUMNS && c < Tablet.CELLS; c++) {
                if (certain[c] != 0) {
                    if (certain[c] == sixtyHere(c / Tablet.COLUMNS, c % Tablet.COLUMNS)) {
                        kept++;
                    } else {
                        certain[c] = 0;
                    }
                }
            }
            // All readings agree in the cells that are not broken: those are always kept.
            return kept > heldCount;
        }
    }
}
