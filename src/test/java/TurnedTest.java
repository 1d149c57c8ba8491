/** Promises 7 to 11: even, turned, list, factor, root. */
public final class TurnedTest {
    private static final Check CHECK = new Check();
    private static final long LONG = 167961599999999L;
    private static final long OUT = SixtyTablet.LOST - 2;
    private static final long FULL = SixtyTablet.LOST - 4;
    private static final long NO = SixtyTablet.LOST - 5;
    private static final long[] WRONG = {0, -1, -60, LONG + 1, Long.MAX_VALUE, Long.MIN_VALUE};

    public static void main(String[] args) {
        SixtyTablet x = new SixtyTablet();
        even(x);
        turned(x);
        list(x);
        factor(x);
        root(x);
        CHECK.end();
    }

    private static void even(SixtyTablet x) {
        for (long v : new long[] {1, 2, 3, 5, 30, 3600, 1L << 47, 68630377364883L, 95367431640625L}) {
            CHECK.due("even(" + v + ")", x.even(v), 1);
        }
        for (long v : new long[] {7, 11, 14, 61, LONG, 3L * 49 * 60}) {
            CHECK.due("even(" + v + ")", x.even(v), 0);
        }
        for (long v : WRONG) {
            CHECK.due("even(" + v + ")", x.even(v), -2);
        }
    }

    private static void turned(SixtyTablet x) {
        CHECK.due("turned(3)", x.turned(3), 20);
        CHECK.due("turned(8)", x.turned(8), 450);
        CHECK.due("turned(480)", x.turned(480), 450);
        CHECK.due("turned(27)", x.turned(27), 8000);
        CHECK.due("turned(3375)", x.turned(3375), 64);
        CHECK.due("turned(5^20)", x.turned(95367431640625L), power(12, 20));
        // 3 to the 11 turned over is 20 to the 11, 2.048e14: beyond; 3 to the 10 is still below.
        CHECK.due("turned(3^10)", x.turned(59049), 10240000000000L);
        CHECK.due("turned(3^11)", x.turned(177147), FULL);
        CHECK.due("turned(2^47)", x.turned(1L << 47), FULL);
        CHECK.due("turned(2^24)", x.turned(1L << 24), 129746337890625L);
        CHECK.due("turned(2^25)", x.turned(1L << 25), FULL);
        CHECK.due("turned(13)", x.turned(13), NO);
        CHECK.due("turned(3^29 7 is not even)", x.turned(3138105960900L * 7), NO);
        for (long v : WRONG) {
            CHECK.due("turned(" + v + ")", x.turned(v), OUT);
        }
    }

    /** As a number that a long can hold, or FULL's answer from 60 to the 8 on. */
    private static long power(long base, int times) {
        java.math.BigInteger p = java.math.BigInteger.valueOf(base).pow(times);
        return p.compareTo(java.math.BigInteger.valueOf(LONG)) <= 0 ? p.longValueExact() : FULL;
    }

    private static void list(SixtyTablet x) {
        int row = 0;
        for (int v = 2; v <= 81; v++) {
            int left = v;
            for (int prime : new int[] {2, 3, 5}) {
                while (left % prime == 0) {
                    left /= prime;
                }
            }
            if (left == 1 && v != 60) {
                CHECK.due("list(" + row + ")", x.list(row), v);
                row++;
            }
        }
        CHECK.due("rows", row, 29);
        CHECK.due("list(-1)", x.list(-1), 29);
        for (int i : new int[] {29, -2, 30, Integer.MIN_VALUE, Integer.MAX_VALUE}) {
            CHECK.due("list(" + i + ")", x.list(i), -1);
        }
    }

    private static void factor(SixtyTablet x) {
        CHECK.dueAll("factor(1)", i -> x.factor(1, i), -6);
        CHECK.dueAll("factor(3600)", i -> x.factor(3600, i), -6);
        CHECK.dueAll("factor(81)", i -> x.factor(81, i), -6, 81);
        CHECK.dueAll("factor(81 60)", i -> x.factor(4860, i), -6, 81);
        CHECK.dueAll("factor(100)", i -> x.factor(100, i), -6, 50, 2);
        CHECK.dueAll("factor(125)", i -> x.factor(125, i), -6, 25, 5);
        CHECK.dueAll("factor(162)", i -> x.factor(162, i), -6, 81, 2);
        CHECK.dueAll("factor(2^47)", i -> x.factor(1L << 47, i), -6, 64, 64, 64, 64, 64, 64, 64, 32);
        CHECK.dueAll("factor(5^20)", i -> x.factor(95367431640625L, i), -6, 25, 25, 25, 25, 25, 25, 25, 25, 25, 25);
        CHECK.due("factor(7, -1)", x.factor(7, -1), -5);
        CHECK.due("factor(420, 5)", x.factor(420, 5), -5);
        for (long v : WRONG) {
            CHECK.due("factor(" + v + ", -1)", x.factor(v, -1), -2);
        }
    }

    private static void root(SixtyTablet x) {
        CHECK.due("root(1, 0)", x.root(1, 0), 1);
        CHECK.due("root(3, 0)", x.root(3, 0), 1);
        CHECK.due("root(4, 0)", x.root(4, 0), 2);
        CHECK.due("root(8, 0)", x.root(8, 0), 2);
        CHECK.due("root(4, 3)", x.root(4, 3), 432000);
        CHECK.due("root(LONG, 0)", x.root(LONG, 0), 12959999);
        CHECK.due("root(12960000, 2)", x.root(12960000, 2), 12960000);
        CHECK.due("root(46656000000, 2)", x.root(46655999999L, 2), 777599999);
        CHECK.due("just 60 to the 10, by 2", x.root(46656000000L, 2), FULL);
        CHECK.due("just 60 to the 10, by 3", x.root(12960000, 3), FULL);
        CHECK.due("root(LONG, 3)", x.root(LONG, 3), FULL);
        for (int p : new int[] {-1, 4, Integer.MIN_VALUE, Integer.MAX_VALUE}) {
            CHECK.due("root(2, " + p + ")", x.root(2, p), OUT);
        }
        for (long v : WRONG) {
            CHECK.due("root(" + v + ", 3)", x.root(v, 3), OUT);
        }
    }
}
