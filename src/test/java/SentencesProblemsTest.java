import java.math.BigInteger;

/**
 * The sentences that say what the calls of promises 27 to 31 answer in the ordinary case, each held by its own words: fields
 * of all small sides, numbers shared, units of all steps.
 */
public final class SentencesProblemsTest {
    private static final Check CHECK = new Check();
    private static final Fresh FRESH = new Fresh();
    private static final long LONG = 167961599999999L;
    private static final long LOST = -1000000000000000000L;
    private static final long NO = LOST - 5;

    public static void main(String[] args) {
        areasAndWorks();
        sharedByEvenNumbers();
        sidesOfSquares();
        lengthAndWidthTogether();
        lengthMoreThanWidth();
        stepsToGreaterUnits();
        numbersByUnits();
        allStepsGo();
        toldOfAll();
        CHECK.end();
    }

    private static void both(int kind, int x, int y, long first, long second) {
        String call = "problem(" + kind + ", " + x + ", " + y + ", ";
        CHECK.due(call + "0)", FRESH.next().problem(kind, x, y, 0), first);
        CHECK.due(call + "1)", FRESH.next().problem(kind, x, y, 1), second);
    }

    /** "0 a field x by y: its area.", "5 x a day, in y days: all.", "its second (1; 0, if there is but one)" */
    private static void areasAndWorks() {
        int[] some = {1, 2, 7, 59, 60, 61, 999, 1000, 46341, 65536, 999999, 1000000};
        for (int x : some) {
            for (int y : some) {
                both(0, x, y, (long) x * y, 0);
                both(5, x, y, (long) x * y, 0);
            }
        }
    }

    private static BigInteger sixtyOf(BigInteger v) {
        BigInteger left = v;
        while (left.mod(BigInteger.valueOf(60)).signum() == 0) {
            left = left.divide(BigInteger.valueOf(60));
        }
        return left;
    }

    /** "1 x shared by y (EVEN): the SIXTY of x times what y is turned over." */
    private static void sharedByEvenNumbers() {
        int[] some = {1, 2, 7, 30, 59, 60, 61, 119, 3600, 3661, 65535, 65536, 216000, 531441, 999999, 1000000};
        for (int x : some) {
            for (int y = 1; y <= 1000; y++) {
                both(1, x, y, shared(x, y), shared(x, y) == NO ? NO : 0);
            }
            for (int y : new int[] {59049, 65536, 78125, 177147, 390625, 524288, 531441, 546750, 1000000}) {
                both(1, x, y, shared(x, y), shared(x, y) == NO ? NO : 0);
            }
        }
    }

    private static long shared(int x, int y) {
        int left = y;
        for (int prime : new int[] {2, 3, 5}) {
            while (left % prime == 0) {
                left /= prime;
            }
        }
        if (left != 1) {
            return NO;
        }
        BigInteger power = BigInteger.ONE;
        while (power.mod(BigInteger.valueOf(y)).signum() != 0) {
            power = power.multiply(BigInteger.valueOf(60));
        }
        BigInteger over = power.divide(BigInteger.valueOf(y));
        BigInteger times = over.multiply(sixtyOf(BigInteger.valueOf(x)));
        BigInteger most = BigInteger.valueOf(LONG);
        return over.compareTo(most) > 0 || times.compareTo(most) > 0 ? NO : sixtyOf(times).longValueExact();
    }

    /** "2 a square of x: its side." */
    private static void sidesOfSquares() {
        for (int side = 1; side <= 1000; side++) {
            int y = 1 + side % 7;
            both(2, side * side, y, side, 0);
            if (side > 1) {
                both(2, side * side - 1, y, NO, NO);
            }
            if (side < 1000) {
                both(2, side * side + 1, y, NO, NO);
            }
        }
    }

    /** "3 length and width together are x, the area is y: the length (the greater one); the width." */
    private static void lengthAndWidthTogether() {
        for (int x = 1; x <= 45; x++) {
            for (int y = 1; y <= 520; y++) {
                long length = NO;
                for (int width = 1; 2 * width <= x; width++) {
                    length = width * (x - width) == y ? x - width : length;
                }
                both(3, x, y, length, length == NO ? NO : x - length);
            }
        }
    }

    /** "4 the length is more than the width by x, the area is y: likewise." */
    private static void lengthMoreThanWidth() {
        for (int x = 1; x <= 45; x++) {
            for (int y = 1; y <= 520; y++) {
                long width = NO;
                for (int w = 1; w * (w + x) <= y; w++) {
                    width = w * (w + x) == y ? w : width;
                }
                both(4, x, y, width == NO ? NO : width + x, width);
            }
        }
    }

    /** "UNITS: up to 5 steps, each 2 to 100", "A step more, to greater UNITS: how many steps." */
    private static void stepsToGreaterUnits() {
        for (int many = 2; many <= 100; many++) {
            SixtyTablet x = new SixtyTablet();
            for (int step = 1; step <= 5; step++) {
                CHECK.due("unit(" + many + ")", x.unit(many), step);
                CHECK.due("told(1)", x.told(1), step);
                CHECK.due("the greatest is " + many + " times as great", x.units(power(many, step), step), 1);
                CHECK.due("one less is none of it", x.units(power(many, step) - 1, step), 0);
                CHECK.due("but as many of the next lesser one as go", x.units(power(many, step) - 1, step - 1), many - 1);
            }
            CHECK.due("a sixth step", x.unit(many), -4);
        }
    }

    private static long power(int base, int times) {
        long power = 1;
        for (int i = 0; i < times; i++) {
            power *= base;
        }
        return power;
    }

    /**
     * "how many of one go into the next greater one. A number of the least ones, BY UNITS: how many of the greatest, and so on
     * down.", "of a number v (0 to LONG) how many of UNIT i (0: the least, up to the steps)"
     */
    private static void numbersByUnits() {
        int[] steps = {7, 100, 2, 30, 12};
        long[] some = {0, 1, 6, 7, 699, 700, 1399, 1400, 41999, 42000, 503999, 504000, 1234567, 98765432101L, LONG - 1, LONG};
        for (int many = 0; many <= steps.length; many++) {
            SixtyTablet x = new SixtyTablet();
            for (int step = 0; step < many; step++) {
                x.unit(steps[step]);
            }
            for (long v : some) {
                long left = v;
                for (int i = many; i >= 0; i--) {
                    long worth = 1;
                    for (int step = 0; step < i; step++) {
                        worth *= steps[step];
                    }
                    CHECK.due(v + " by " + many + " steps, UNIT " + i, x.units(v, i), left / worth);
                    left %= worth;
                }
            }
        }
    }

    /** "All steps go: how many there were." */
    private static void allStepsGo() {
        SixtyTablet x = new SixtyTablet();
        for (int many = 0; many <= 5; many++) {
            for (int step = 0; step < many; step++) {
                x.unit(9 + step);
            }
            CHECK.due("wipe of " + many, x.wipe(), many);
            CHECK.due("told(1)", x.told(1), 0);
            CHECK.due("UNIT 0 is left", x.units(12345, 0), 12345);
            CHECK.due("UNIT 1 is not", x.units(12345, 1), LOST - 1);
        }
    }

    /** "0 LINES, 1 steps, 2 to 5 ROWS of a TABLET, 6 to 9 its BROKEN CELLS." */
    private static void toldOfAll() {
        SixtyTablet x = new SixtyTablet();
        int[] due = {0, 0, 1, 1, 1, 1, 3, 3, 3, 3};
        dueTold(x, due);
        x.times(219661, 61);
        due[0] = 8;
        x.unit(60);
        due[1] = 1;
        for (int t = 0; t < 4; t++) {
            x.tablet(t, 2 * t + 1);
            due[2 + t] = 2 * t + 1;
            due[6 + t] = 3 * due[2 + t];
            dueTold(x, due);
            x.press(t, t, 2, 60);
            due[6 + t]--;
            dueTold(x, due);
        }
        x.press(3, 3, 2, 0);
        due[9]++;
        dueTold(x, due);
        x.copy(2, 1, 0, 0, 8);
        due[4] = 8;
        due[8] = 0;
        dueTold(x, due);
        x.join(0, 3, 1);
        due[2] = 8;
        due[6] = 23;
        dueTold(x, due);
    }

    private static void dueTold(SixtyTablet x, int[] due) {
        for (int what = 0; what < due.length; what++) {
            CHECK.due("told(" + what + ")", x.told(what), due[what]);
        }
    }
}
