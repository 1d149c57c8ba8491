/** Promises 2 to 6: sixty, digit, sight, like, put. */
public final class SixtiesTest {
    private static final Check CHECK = new Check();
    private static final long LONG = 167961599999999L;
    private static final long OUT = SixtyTablet.LOST - 2;
    private static final long FULL = SixtyTablet.LOST - 4;
    private static final long[] WRONG = {0, -1, -60, LONG + 1, Long.MAX_VALUE, Long.MIN_VALUE};

    public static void main(String[] args) {
        SixtyTablet x = new SixtyTablet();
        sixty(x);
        digit(x);
        sight(x);
        like(x);
        put(x);
        CHECK.end();
    }

    private static void sixty(SixtyTablet x) {
        CHECK.due("sixty(1)", x.sixty(1), 1);
        CHECK.due("sixty(59)", x.sixty(59), 59);
        CHECK.due("sixty(60)", x.sixty(60), 1);
        CHECK.due("sixty(61)", x.sixty(61), 61);
        CHECK.due("sixty(7200)", x.sixty(7200), 2);
        CHECK.due("sixty(60^7)", x.sixty(2799360000000L), 1);
        CHECK.due("sixty(59 60^7)", x.sixty(165162240000000L), 59);
        CHECK.due("sixty(LONG)", x.sixty(LONG), LONG);
        for (long v : WRONG) {
            CHECK.due("sixty(" + v + ")", x.sixty(v), OUT);
        }
    }

    private static void digit(SixtyTablet x) {
        CHECK.dueAll("digit(1)", i -> x.digit(1, i), -6, 1);
        CHECK.dueAll("digit(60)", i -> x.digit(60, i), -6, 1);
        CHECK.dueAll("digit(3605)", i -> x.digit(3605, i), -6, 1, 0, 5);
        CHECK.dueAll("digit(3605 3600)", i -> x.digit(3605 * 3600, i), -6, 1, 0, 5);
        CHECK.dueAll("digit(LONG)", i -> x.digit(LONG, i), -6, 59, 59, 59, 59, 59, 59, 59, 59);
        for (long v : WRONG) {
            CHECK.due("digit(" + v + ", -1)", x.digit(v, -1), -2);
            CHECK.due("digit(" + v + ", 9)", x.digit(v, 9), -2);
        }
    }

    private static void sight(SixtyTablet x) {
        CHECK.dueAll("sight(3605)", i -> x.sight(3605, i), -6, 1, 5);
        CHECK.dueAll("sight(3605 60)", i -> x.sight(3605 * 60, i), -6, 1, 5);
        CHECK.dueAll("sight(60^7 and 7)", i -> x.sight(2799360000007L, i), -6, 1, 7);
        CHECK.dueAll("sight(LONG)", i -> x.sight(LONG, i), -6, 59, 59, 59, 59, 59, 59, 59, 59);
        for (long v : WRONG) {
            CHECK.due("sight(" + v + ", -1)", x.sight(v, -1), -2);
            CHECK.due("sight(" + v + ", 9)", x.sight(v, 9), -2);
        }
    }

    private static void like(SixtyTablet x) {
        long none = SixtyTablet.LOST - 6;
        CHECK.dueAll("like(60 7, 8)", i -> x.like(420, 8, i), none, 7);
        CHECK.dueAll("like(65, 1)", i -> x.like(65, 1, i), none);
        CHECK.dueAll("like(65, 2)", i -> x.like(65, 2, i), none, 65);
        CHECK.dueAll("like(216005, 3)", i -> x.like(216005, 3, i), none, 65, 3605);
        // 1 2 3 in at most 5 digits: 1.2.3, 1.0.2.3, 1.2.0.3, 1.0.0.2.3, 1.0.2.0.3, 1.2.0.0.3
        CHECK.dueAll("like(3723, 5)", i -> x.like(3723, 5, i), none,
            3723, 216123, 223203, 12960123, 12967203, 13392003);
        CHECK.due("like(1.2.3.4, 8, -1)", x.like(223384, 8, -1), 35);
        CHECK.dueAll("like(LONG, 8)", i -> x.like(LONG, 8, i), none, LONG);
        CHECK.dueAll("like(LONG, 7)", i -> x.like(LONG, 7, i), none);
        for (int d : new int[] {0, 9, -1, Integer.MIN_VALUE, Integer.MAX_VALUE}) {
            CHECK.due("like(1, " + d + ", -1)", x.like(1, d, -1), OUT);
        }
        for (long v : WRONG) {
            CHECK.due("like(" + v + ", 4, -1)", x.like(v, 4, -1), OUT);
            CHECK.due("like(" + v + ", 4, -9)", x.like(v, 4, -9), OUT);
        }
    }

    private static void put(SixtyTablet x) {
        CHECK.due("put(1, 1, 7)", x.put(1, 1, 7), 2799360000001L);
        CHECK.due("put(1, 59, 7)", x.put(1, 59, 7), 165162240000001L);
        CHECK.due("put(1, 60, 7)", x.put(1, 60, 7), FULL);
        CHECK.due("put(2, 3, -1)", x.put(2, 3, -1), 123);
        CHECK.due("put(2, 3, 1)", x.put(2, 3, 1), 182);
        CHECK.due("put(60, 1, 1)", x.put(60, 1, 1), 2);
        CHECK.due("put(LONG - 1, 1, 0)", x.put(LONG - 1, 1, 0), LONG);
        CHECK.due("put(LONG, 1, 0)", x.put(LONG, 1, 0), FULL);
        CHECK.due("put(1, LONG, 0)", x.put(1, LONG, 0), FULL);
        CHECK.due("put(LONG, LONG, 7)", x.put(LONG, LONG, 7), FULL);
        CHECK.due("put(LONG, LONG, -7)", x.put(LONG, LONG, -7), FULL);
        CHECK.due("put up to the end", x.put(2799360000000L - 1, 59, 7), LONG);
        for (int k : new int[] {8, -8, Integer.MIN_VALUE, Integer.MAX_VALUE}) {
            CHECK.due("put(1, 1, " + k + ")", x.put(1, 1, k), OUT);
            CHECK.due("put(LONG, LONG, " + k + ")", x.put(LONG, LONG, k), OUT);
        }
        for (long v : WRONG) {
            CHECK.due("put(" + v + ", 1, 0)", x.put(v, 1, 0), OUT);
            CHECK.due("put(1, " + v + ", 7)", x.put(1, v, 7), OUT);
        }
    }
}
