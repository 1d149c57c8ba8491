/** The edges that the document names for promises 2 to 6: sixty, digit, sight, like, put. */
public final class EdgesSixtiesTest {
    private static final Check CHECK = new Check();
    private static final long LONG = 167961599999999L;
    private static final long OUTSIDE = SixtyTablet.LOST - 2;
    private static final long FULL = SixtyTablet.LOST - 4;
    private static final long LOST_NONE = SixtyTablet.LOST - 6;
    private static final int NONE = -6;
    private static final int MIN = Integer.MIN_VALUE, MAX = Integer.MAX_VALUE;

    public static void main(String[] args) {
        partedAsLongAsThatGoes();
        digitsFromZeroToFiftyNine();
        firstAndLastDigitAreNotZero();
        digitBehindTheLast();
        sightWithoutZeros();
        sightBehindTheLast();
        likesInOneToEightDigits();
        likesOfAtMostSoManyDigits();
        likesInOrder();
        likeBehindTheLast();
        putAtMinusSevenToSeven();
        putBelowAndAboveZero();
        putLessThanSixtyToTheEight();
        putFarBeyond();
        putAsASixty();
        CHECK.end();
    }

    private static long power(int k) {
        long power = 1;
        for (int i = 0; i < k; i++) {
            power *= 60;
        }
        return power;
    }

    /** "it is parted by 60 as long as that goes": never, up to seven times. */
    private static void partedAsLongAsThatGoes() {
        SixtyTablet x = new SixtyTablet();
        for (int k = 0; k <= 7; k++) {
            for (int sign : new int[] {1, 2, 30, 59}) {
                CHECK.due("sixty(" + sign + " 60^" + k + ")", x.sixty(sign * power(k)), sign);
            }
        }
        for (int k = 0; k <= 6; k++) {
            CHECK.due("sixty(61 60^" + k + ")", x.sixty(61 * power(k)), 61);
        }
        CHECK.due("sixty(60^8 less 60)", x.sixty(LONG - 59), power(7) - 1);
        CHECK.due("sixty(60^7 and 1)", x.sixty(power(7) + 1), power(7) + 1);
        CHECK.due("sixty(60^7 less 1)", x.sixty(power(7) - 1), power(7) - 1);
    }

    /** "what is left is written by DIGITS 0 to 59" */
    private static void digitsFromZeroToFiftyNine() {
        SixtyTablet x = new SixtyTablet();
        CHECK.dueAll("60^7 and 1", i -> x.digit(power(7) + 1, i), NONE, 1, 0, 0, 0, 0, 0, 0, 1);
        CHECK.dueAll("59 60^7 and 59", i -> x.digit(59 * power(7) + 59, i), NONE, 59, 0, 0, 0, 0, 0, 0, 59);
        CHECK.dueAll("59", i -> x.digit(59, i), NONE, 59);
        CHECK.dueAll("61", i -> x.digit(61, i), NONE, 1, 1);
        CHECK.dueAll("119", i -> x.digit(119, i), NONE, 1, 59);
        CHECK.dueAll("3599", i -> x.digit(3599, i), NONE, 59, 59);
        CHECK.dueAll("3601", i -> x.digit(3601, i), NONE, 1, 0, 1);
    }

    /** "the first and the last of which are not 0": zeros at the end are no DIGITS. */
    private static void firstAndLastDigitAreNotZero() {
        SixtyTablet x = new SixtyTablet();
        for (int k = 0; k <= 7; k++) {
            long v = power(k);
            CHECK.dueAll("60^" + k, i -> x.digit(v, i), NONE, 1);
        }
        CHECK.dueAll("1.0.1 and five zeros", i -> x.digit(3601 * power(5), i), NONE, 1, 0, 1);
        CHECK.dueAll("60^8 less 60", i -> x.digit(LONG - 59, i), NONE, 59, 59, 59, 59, 59, 59, 59);
    }

    /** "DIGIT i of THE SIXTY .. i = -1: how many .. NONE": on both sides of the DIGITS. */
    private static void digitBehindTheLast() {
        SixtyTablet x = new SixtyTablet();
        CHECK.dueFor("one digit", i -> x.digit(7, i), NONE, 1, 2, 7, 8, -2, MIN, MAX);
        CHECK.dueFor("a zero at the end", i -> x.digit(60 * 7, i), NONE, 1, 2, -2);
        CHECK.due("eight digits, the last", x.digit(LONG, 7), 59);
        CHECK.dueFor("eight digits", i -> x.digit(LONG, i), NONE, 8, 9, -2, MIN, MAX);
    }

    /** "its DIGITS without zeros, as they are pressed" */
    private static void sightWithoutZeros() {
        SixtyTablet x = new SixtyTablet();
        CHECK.dueAll("60^7", i -> x.sight(power(7), i), NONE, 1);
        CHECK.dueAll("60^7 and 59", i -> x.sight(power(7) + 59, i), NONE, 1, 59);
        CHECK.dueAll("1.0.2.0.0.3.0.0", i -> x.sight(power(7) + 2 * power(5) + 3 * power(2), i), NONE, 1, 2, 3);
        long all = 0;
        for (int d = 1; d <= 8; d++) {
            all = all * 60 + d;
        }
        long eight = all;
        CHECK.dueAll("no zero at all", i -> x.sight(eight, i), NONE, 1, 2, 3, 4, 5, 6, 7, 8);
    }

    /** "DIGIT i of THE SIGHT; i = -1: how many .. NONE": on both sides. */
    private static void sightBehindTheLast() {
        SixtyTablet x = new SixtyTablet();
        CHECK.dueFor("one sign", i -> x.sight(7, i), NONE, 1, 2, 8, -2, MIN, MAX);
        CHECK.dueFor("two signs of eight digits", i -> x.sight(power(7) + 1, i), NONE, 2, 7, 8, -2, MIN, MAX);
        CHECK.due("eight signs, the last", x.sight(LONG, 7), 59);
        CHECK.dueFor("eight signs", i -> x.sight(LONG, i), NONE, 8, -2, MIN, MAX);
    }

    /** "LIKES of a number in d DIGITS (1 to 8)" */
    private static void likesInOneToEightDigits() {
        SixtyTablet x = new SixtyTablet();
        CHECK.due("d = 1", x.like(7, 1, 0), 7);
        CHECK.due("d = 8", x.like(7, 8, 0), 7);
        CHECK.due("d = 8, how many", x.like(61, 8, -1), 7);
        CHECK.dueFor("d outside", d -> x.like(7, d, -1), OUTSIDE, 0, 9, -1, MIN, MAX, 32, 33, 64, 65);
        CHECK.dueFor("d outside, the first", d -> x.like(7, d, 0), OUTSIDE, 0, 9, -1, MIN, MAX, 32, 33);
    }

    /** "all SIXTIES of at most d DIGITS": just as many signs, and one more than go in. */
    private static void likesOfAtMostSoManyDigits() {
        SixtyTablet x = new SixtyTablet();
        long v = 0;
        for (int signs = 1; signs <= 8; signs++) {
            v = v * 60 + signs;
            long so = v;
            CHECK.dueAll(signs + " signs in as many", i -> x.like(so, d(so), i), LOST_NONE, so);
            if (signs > 1) {
                CHECK.dueAll(signs + " signs in one less", i -> x.like(so, d(so) - 1, i), LOST_NONE);
                CHECK.dueFor(signs + " signs in 1", i -> x.like(so, 1, i), LOST_NONE, 0, 1, -2);
            }
            if (signs < 8) {
                CHECK.due(signs + " signs in one more", x.like(so, signs + 1, -1), signs);
            }
        }
    }

    private static int d(long v) {
        return new SixtyTablet().digit(v, -1);
    }

    /** "in order of numbers": each greater than the one ahead, and each with the SIGHT; as many as there are ways. */
    private static void likesInOrder() {
        long[][] seen = {{61, 7}, {3723, 21}, {223384, 35}, {13403045, 35}, {804182706L, 21}, {48250962367L, 7}};
        for (long[] one : seen) {
            SixtyTablet x = new SixtyTablet();
            CHECK.due("likes of " + one[0], x.like(one[0], 8, -1), one[1]);
            long ahead = 0;
            for (int i = 0; i < one[1]; i++) {
                long like = x.like(one[0], 8, i);
                CHECK.due("like " + i + " of " + one[0] + " is greater", like > ahead ? 1 : 0, 1);
                CHECK.due("like " + i + " has no zero at its end", like % 60 == 0 ? 1 : 0, 0);
                CHECK.due("like " + i + " has its signs", x.sight(like, -1), x.sight(one[0], -1));
                CHECK.due("the last sign", x.sight(like, x.sight(like, -1) - 1), one[0] % 60);
                ahead = like;
            }
            CHECK.due("the first has no zero", x.like(one[0], 8, 0), one[0]);
        }
        SixtyTablet x = new SixtyTablet();
        CHECK.due("the last of 1.1", x.like(61, 8, 6), power(7) + 1);
        CHECK.due("the last of 1.2.3", x.like(3723, 8, 20), power(7) + 2 * power(6) + 3);
    }

    /** "LIKES: how many (i = -1), the i-th .. (NONE: LOST less 6)" */
    private static void likeBehindTheLast() {
        SixtyTablet x = new SixtyTablet();
        CHECK.due("LOST less 6", LOST_NONE, -1000000000000000006L);
        CHECK.dueFor("one like", i -> x.like(60, 8, i), LOST_NONE, 1, 2, -2, MIN, MAX);
        CHECK.due("35 likes, the last", x.like(223384, 8, 34), power(7) + 2 * power(6) + 3 * power(5) + 4);
        CHECK.dueFor("35 likes", i -> x.like(223384, 8, i), LOST_NONE, 35, 36, -2, MIN, MAX);
        // A number that is not the first of its likes, and one with zeros at its end, have the same ones.
        CHECK.due("of 1.0.0.1.0", x.like(60 * (power(3) + 1), 2, 0), 61);
        CHECK.due("of 1.0.0.1.0, how many", x.like(60 * (power(3) + 1), 2, -1), 1);
    }

    /** "PUT TOGETHER x and y at k (-7 to 7)" */
    private static void putAtMinusSevenToSeven() {
        SixtyTablet x = new SixtyTablet();
        for (int k = 0; k <= 7; k++) {
            CHECK.due("put(1, 2, " + k + ")", x.put(1, 2, k), x.sixty(1 + 2 * power(k)));
            CHECK.due("put(1, 2, -" + k + ")", x.put(1, 2, -k), x.sixty(power(k) + 2));
        }
        CHECK.due("k = 7", x.put(1, 1, 7), power(7) + 1);
        CHECK.due("k = -7", x.put(1, 1, -7), power(7) + 1);
        CHECK.dueFor("k outside", k -> x.put(1, 1, k), OUTSIDE, 8, -8, 9, -9, 60, -60, MIN, MAX);
    }

    /** "x and 60 to the k times y, or for k below 0, 60 to the -k times x, and y" */
    private static void putBelowAndAboveZero() {
        SixtyTablet x = new SixtyTablet();
        CHECK.due("k = 0", x.put(5, 7, 0), 12);
        CHECK.due("k = 1", x.put(5, 7, 1), 425);
        CHECK.due("k = -1", x.put(5, 7, -1), 307);
    }

    /** "it has to be less than 60 to the 8 ahead of that": the last that is, and just 60 to the 8, for each k. */
    private static void putLessThanSixtyToTheEight() {
        SixtyTablet x = new SixtyTablet();
        for (int k = 0; k <= 7; k++) {
            long other = power(8 - k) - 1;
            long rest = power(k);
            String at = " at " + k;
            if (rest > 1) {
                CHECK.due("LONG" + at, x.put(rest - 1, other, k), LONG);
                CHECK.due("LONG" + " at -" + k, x.put(other, rest - 1, -k), LONG);
            }
            // Together just 60 to the 8, whose sixty would be 1.
            CHECK.due("60^8" + at, x.put(rest, other, k), FULL);
            CHECK.due("60^8" + " at -" + k, x.put(other, rest, -k), FULL);
            CHECK.due("60^8 and 1" + at, x.put(rest + 1, other, k), FULL);
            CHECK.due("60^8 and 1" + " at -" + k, x.put(other, rest + 1, -k), FULL);
        }
        CHECK.due("LONG at 0", x.put(1, LONG - 1, 0), LONG);
        CHECK.due("LONG at 0", x.put(LONG - 1, 1, 0), LONG);
    }

    /** FULL where the number itself would go round: 60 to the 7 times LONG is beyond all long numbers. */
    private static void putFarBeyond() {
        SixtyTablet x = new SixtyTablet();
        for (int k = 0; k <= 7; k++) {
            CHECK.due("put(LONG, LONG, " + k + ")", x.put(LONG, LONG, k), FULL);
            CHECK.due("put(LONG, LONG, -" + k + ")", x.put(LONG, LONG, -k), FULL);
        }
        for (long y = 60; y <= LONG / 2; y *= 2) {
            CHECK.due("put(1, " + y + ", 7)", x.put(1, y, 7), FULL);
            CHECK.due("put(" + y + ", 1, -7)", x.put(y, 1, -7), FULL);
        }
        CHECK.due("put(1, 59, 7)", x.put(1, 59, 7), 59 * power(7) + 1);
        CHECK.due("put(59, 1, -7)", x.put(59, 1, -7), 59 * power(7) + 1);
    }

    /** "as a SIXTY": zeros at the end go. */
    private static void putAsASixty() {
        SixtyTablet x = new SixtyTablet();
        CHECK.due("put(59, 1, 0)", x.put(59, 1, 0), 1);
        CHECK.due("put(60^7, 58, 7)", x.put(power(7), 58, 7), 59);
        CHECK.due("put(60, 60, 1)", x.put(60, 60, 1), 61);
        CHECK.due("put(3540, 1, 1)", x.put(3540, 1, 1), 1);
    }
}
