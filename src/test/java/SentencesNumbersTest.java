import java.math.BigInteger;
import java.util.ArrayList;
import java.util.List;

/**
 * The sentences that say what the calls of promises 1 to 11 answer in the ordinary case, from the first line on, each held
 * over whole ranges of numbers by its own words. The boundary cases are in the files Edges..Test.
 */
public final class SentencesNumbersTest {
    private static final Check CHECK = new Check();
    private static final Fresh FRESH = new Fresh();
    private static final long LONG = 167961599999999L;
    private static final long LOST = -1000000000000000000L;
    private static final BigInteger SIXTY = BigInteger.valueOf(60);
    /** Of each size, with and without gaps, even and not. */
    private static final long[] GREAT = {
        216001, 12960060, 777600061, 46656000001L, 46655999999L, 2799360000000L, 2799360000059L, 95367431640625L,
        68630377364883L, 140737488355328L, 164025000000000L, 165162240000000L, LONG - 1, LONG
    };

    public static void main(String[] args) {
        refusalsOfGreatNumbers();
        ifNothingElseIsTold();
        theSixty();
        nothingTellsWhereWholesEnd();
        theSight();
        likesHaveTheSight();
        putTogether();
        whetherEven();
        turnedOver();
        theList();
        factors();
        factorsTurnedOver();
        rootTo();
        CHECK.end();
    }

    private static BigInteger big(long v) {
        return BigInteger.valueOf(v);
    }

    private static long sixtyOf(BigInteger v) {
        BigInteger left = v;
        while (left.mod(SIXTY).signum() == 0) {
            left = left.divide(SIXTY);
        }
        return left.longValueExact();
    }

    /** Those from 1 to 9000, and great ones. */
    private static long[] numbers() {
        long[] all = new long[9000 + GREAT.length];
        for (int i = 0; i < 9000; i++) {
            all[i] = i + 1;
        }
        System.arraycopy(GREAT, 0, all, 9000, GREAT.length);
        return all;
    }

    /**
     * "Calls that answer great numbers answer LOST less 1, 2, .. so.",
     * "What is told of numbers that are refused: LOST and the refusal."
     */
    private static void refusalsOfGreatNumbers() {
        SixtyTablet x = new SixtyTablet();
        CHECK.due("sixty", x.sixty(0), LOST + SixtyTablet.OUTSIDE);
        CHECK.due("like", x.like(1, 9, 0), LOST + SixtyTablet.OUTSIDE);
        CHECK.due("like, behind the last", x.like(1, 8, 1), LOST + SixtyTablet.NONE);
        CHECK.due("put", x.put(1, 1, 8), LOST + SixtyTablet.OUTSIDE);
        CHECK.due("put, too great", x.put(1, LONG, 1), LOST + SixtyTablet.FULL);
        CHECK.due("turned", x.turned(0), LOST + SixtyTablet.OUTSIDE);
        CHECK.due("turned, not even", x.turned(7), LOST + SixtyTablet.NO);
        CHECK.due("turned, too great", x.turned(177147), LOST + SixtyTablet.FULL);
        CHECK.due("root", x.root(1, 4), LOST + SixtyTablet.OUTSIDE);
        CHECK.due("root, too great", x.root(LONG, 2), LOST + SixtyTablet.FULL);
        CHECK.due("sum", x.sum(0), LOST + SixtyTablet.UNKNOWN);
        CHECK.due("slip", x.slip(0, 0, 0, 0), LOST + SixtyTablet.UNKNOWN);
        x.times(2, 3);
        CHECK.due("slip, KIND", x.slip(0, 4, 0, 0), LOST + SixtyTablet.OUTSIDE);
        CHECK.due("slip, no such", x.slip(0, 0, 0, 0), LOST + SixtyTablet.NO);
        CHECK.due("problem", x.problem(6, 1, 1, 0), LOST + SixtyTablet.OUTSIDE);
        CHECK.due("problem, none", x.problem(2, 2, 1, 0), LOST + SixtyTablet.NO);
        CHECK.due("units", x.units(1, 1), LOST + SixtyTablet.UNKNOWN);
        CHECK.due("units, v", x.units(-1, 0), LOST + SixtyTablet.OUTSIDE);
    }

    /** "Numbers given as v, x, y are 1 to LONG .. if nothing else is told.": the four calls that tell something else. */
    private static void ifNothingElseIsTold() {
        SixtyTablet x = new SixtyTablet();
        CHECK.due("times to 60 to the 4", x.times(12959999, 12959999), 16);
        CHECK.due("times beyond", x.times(12960000, 12960000), -2);
        CHECK.due("press of 0", x.press(0, 0, 0, 0), 0);
        CHECK.due("press beyond", x.press(0, 0, 0, 12960000), -2);
        CHECK.due("problem to 1000000", x.problem(0, 1000000, 1000000, 0), 1000000000000L);
        CHECK.due("problem beyond", x.problem(0, 1000001, 1, 0), LOST - 2);
        CHECK.due("units of 0", x.units(0, 0), 0);
        CHECK.due("units of LONG", x.units(LONG, 0), LONG);
    }

    /** "THE SIXTY of a number: it is parted by 60 as long as that goes", "THE SIXTY, as a number." */
    private static void theSixty() {
        for (long v : numbers()) {
            long sixty = FRESH.next().sixty(v);
            CHECK.due("sixty(" + v + ")", sixty, sixtyOf(big(v)));
            int digits = FRESH.next().digit(v, -1);
            long again = 0;
            for (int i = 0; i < digits; i++) {
                again = again * 60 + FRESH.next().digit(v, i);
            }
            CHECK.due("the digits of " + v, again, sixty);
        }
    }

    /** "(nothing tells where wholes end)": v and 60 v are one to all that look at THE SIXTY. */
    private static void nothingTellsWhereWholesEnd() {
        for (long v = 1; v <= 4000; v += 7) {
            for (long more = v * 60; more <= LONG; more *= 60) {
                CHECK.due("sixty of " + more, FRESH.next().sixty(more), FRESH.next().sixty(v));
                CHECK.due("digits of " + more, FRESH.next().digit(more, -1), FRESH.next().digit(v, -1));
                CHECK.due("sight of " + more, FRESH.next().sight(more, -1), FRESH.next().sight(v, -1));
                CHECK.due("likes of " + more, FRESH.next().like(more, 5, 1), FRESH.next().like(v, 5, 1));
                CHECK.due("even " + more, FRESH.next().even(more), FRESH.next().even(v));
                CHECK.due("turned " + more, FRESH.next().turned(more), FRESH.next().turned(v));
                CHECK.due("factor of " + more, FRESH.next().factor(more, 0), FRESH.next().factor(v, 0));
            }
        }
    }

    /** "THE SIGHT of it: its DIGITS without zeros, as they are pressed." */
    private static void theSight() {
        for (long v : numbers()) {
            int digits = FRESH.next().digit(v, -1);
            int pressed = 0;
            for (int i = 0; i < digits; i++) {
                int digit = FRESH.next().digit(v, i);
                if (digit != 0) {
                    CHECK.due("sight(" + v + ", " + pressed + ")", FRESH.next().sight(v, pressed), digit);
                    pressed++;
                }
            }
            CHECK.due("sight(" + v + ", -1)", FRESH.next().sight(v, -1), pressed);
        }
    }

    /** "all SIXTIES of at most d DIGITS with its SIGHT, in order of numbers": found by looking at all of three DIGITS. */
    private static void likesHaveTheSight() {
        for (long v : new long[] {1, 59, 60, 61, 65, 119, 3601, 3659, 3661, 7325, 216001, 216060, 219661}) {
            List<Long> due = new ArrayList<>();
            String sight = sightOf(v);
            for (long n = 1; n < 216000; n++) {
                if (n % 60 != 0 && sightOf(n).equals(sight)) {
                    due.add(n);
                }
            }
            CHECK.due("like(" + v + ", 3, -1)", FRESH.next().like(v, 3, -1), due.size());
            for (int i = 0; i < due.size(); i++) {
                CHECK.due("like(" + v + ", 3, " + i + ")", FRESH.next().like(v, 3, i), due.get(i));
            }
        }
        likesOfEightDigits();
    }

    private static String sightOf(long v) {
        StringBuilder text = new StringBuilder();
        for (long left = v; left > 0; left /= 60) {
            if (left % 60 != 0) {
                text.append(left % 60).append(' ');
            }
        }
        return text.toString();
    }

    /** As many as there are ways to lay what is between the first and the last one; each above the one ahead. */
    private static void likesOfEightDigits() {
        for (long v : new long[] {61, 3723, 223384, 13403045, 804182706, 48250962367L, 2895057742028L}) {
            int pressed = FRESH.next().sight(v, -1);
            for (int d = 1; d <= 8; d++) {
                int due = 0;
                for (int length = pressed; length <= d; length++) {
                    due += ways(length - 2, pressed - 2);
                }
                CHECK.due("like(" + v + ", " + d + ", -1)", FRESH.next().like(v, d, -1), due);
                long ahead = 0;
                for (int i = 0; i < due; i++) {
                    long like = FRESH.next().like(v, d, i);
                    CHECK.due("in order of numbers: " + like, like > ahead ? 1 : 0, 1);
                    CHECK.due("a SIXTY: " + like, FRESH.next().sixty(like), like);
                    CHECK.due("DIGITS of " + like, FRESH.next().digit(like, -1) <= d ? 1 : 0, 1);
                    CHECK.due("SIGHT of " + like, sightOf(like).equals(sightOf(v)) ? 1 : 0, 1);
                    ahead = like;
                }
            }
        }
    }

    private static int ways(int places, int taken) {
        if (taken < 0 || taken > places) {
            return 0;
        }
        return taken == 0 || taken == places ? 1 : ways(places - 1, taken - 1) + ways(places - 1, taken);
    }

    /** "PUT TOGETHER x and y at k .. x and 60 to the k times y, or for k below 0, 60 to the -k times x, and y; as a SIXTY" */
    private static void putTogether() {
        long[] some = {1, 2, 7, 59, 60, 61, 119, 3540, 3600, 12959999, 12960000, 2799359999999L, 2799360000000L, LONG - 60, LONG};
        for (long x : some) {
            for (long y : some) {
                for (int k = -7; k <= 7; k++) {
                    BigInteger together = k < 0 ? big(x).multiply(SIXTY.pow(-k)).add(big(y)) : big(x).add(big(y).multiply(SIXTY.pow(k)));
                    long due = together.compareTo(big(LONG)) > 0 ? LOST - 4 : sixtyOf(together);
                    CHECK.due("put(" + x + ", " + y + ", " + k + ")", FRESH.next().put(x, y, k), due);
                }
            }
        }
    }

    private static boolean isEven(long v) {
        long left = v;
        for (int prime : new int[] {2, 3, 5}) {
            while (left % prime == 0) {
                left /= prime;
            }
        }
        return left == 1;
    }

    /** "A number is EVEN, if nothing but 2, 3, 5 parts it.", "Whether a number is EVEN: 1, 0." */
    private static void whetherEven() {
        for (long v : numbers()) {
            CHECK.due("even(" + v + ")", FRESH.next().even(v), isEven(v) ? 1 : 0);
        }
    }

    /** "TURNED OVER it is the SIXTY that, times it, is 60 to some power." */
    private static void turnedOver() {
        int full = 0;
        for (long v : evenNumbers()) {
            long over = FRESH.next().turned(v);
            if (over == LOST - 4) {
                full++;
                CHECK.due("beyond: " + v, overOf(v).compareTo(big(LONG)) > 0 ? 1 : 0, 1);
            } else {
                CHECK.due("a SIXTY: " + over, over > 0 && over % 60 != 0 ? 1 : 0, 1);
                CHECK.due("times " + v + " it is 60 to some power", sixtyOf(big(v).multiply(big(over))), 1);
            }
        }
        CHECK.due("some are beyond", full > 0 ? 1 : 0, 1);
        for (long v : numbers()) {
            if (!isEven(v)) {
                CHECK.due("turned(" + v + ")", FRESH.next().turned(v), LOST - 5);
            }
        }
    }

    /** All EVEN numbers. */
    private static List<Long> evenNumbers() {
        List<Long> even = new ArrayList<>();
        for (long twos = 1; twos <= LONG; twos *= 2) {
            for (long threes = twos; threes <= LONG; threes *= 3) {
                for (long fives = threes; fives <= LONG; fives *= 5) {
                    even.add(fives);
                }
            }
        }
        return even;
    }

    private static BigInteger overOf(long v) {
        BigInteger power = BigInteger.ONE;
        while (power.mod(big(v)).signum() != 0) {
            power = power.multiply(SIXTY);
        }
        return power.divide(big(v));
    }

    /** "THE LIST: all EVEN numbers from 2 to 81 but 60, in order: ROWS 0 to 28.", "ROW i of THE LIST: the number" */
    private static void theList() {
        List<Integer> list = listed();
        CHECK.due("list(-1)", FRESH.next().list(-1), list.size());
        CHECK.due("ROWS 0 to 28", list.size(), 29);
        for (int i = 0; i < list.size(); i++) {
            CHECK.due("list(" + i + ")", FRESH.next().list(i), list.get(i));
        }
    }

    private static List<Integer> listed() {
        List<Integer> list = new ArrayList<>();
        for (int v = 2; v <= 81; v++) {
            if (v != 60 && isEven(v)) {
                list.add(v);
            }
        }
        return list;
    }

    /**
     * "FACTORS of an EVEN number, its SIXTY being v: as long as v is neither 1 nor in THE LIST: the greatest number of THE
     * LIST that parts v is written, and v becomes the SIXTY of v by that; at last v, if it is not 1."
     */
    private static void factors() {
        List<Integer> list = listed();
        for (long even : evenNumbers()) {
            long v = sixtyOf(big(even));
            int i = 0;
            while (v != 1 && (v > 81 || !list.contains((int) v))) {
                int greatest = 0;
                for (int listed : list) {
                    greatest = v % listed == 0 ? listed : greatest;
                }
                CHECK.due("factor(" + even + ", " + i + ")", FRESH.next().factor(even, i), greatest);
                v = sixtyOf(big(v / greatest));
                i++;
            }
            if (v != 1) {
                CHECK.due("the last factor of " + even, FRESH.next().factor(even, i), v);
                i++;
            }
            CHECK.due("factor(" + even + ", -1)", FRESH.next().factor(even, -1), i);
            CHECK.due("factor(" + even + ", " + i + ")", FRESH.next().factor(even, i), -6);
        }
    }

    /** "(The SIXTIES of what they are turned over, times one another, are what the number is turned over.)" */
    private static void factorsTurnedOver() {
        for (long even : evenNumbers()) {
            long over = FRESH.next().turned(even);
            BigInteger product = BigInteger.ONE;
            int many = FRESH.next().factor(even, -1);
            for (int i = 0; i < many; i++) {
                product = product.multiply(big(FRESH.next().turned(FRESH.next().factor(even, i))));
            }
            if (over > 0) {
                CHECK.due("factor by factor: " + even, sixtyOf(product), over);
            }
        }
    }

    /** "ROOT of v to p PLACES (0 to 3): the greatest r with r r not above v 3600 to the p (that below 60 to the 10)." */
    private static void rootTo() {
        for (long v : numbers()) {
            for (int p = 0; p <= 3; p++) {
                BigInteger raised = big(v).multiply(big(3600).pow(p));
                long due = raised.compareTo(SIXTY.pow(10)) >= 0 ? LOST - 4 : raised.sqrt().longValueExact();
                CHECK.due("root(" + v + ", " + p + ")", FRESH.next().root(v, p), due);
            }
        }
    }
}
