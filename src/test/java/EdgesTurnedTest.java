import java.math.BigInteger;
import java.util.ArrayList;
import java.util.List;

/** The edges that the document names for promises 7 to 11: even, turned, list, factor, root. */
public final class EdgesTurnedTest {
    private static final Check CHECK = new Check();
    private static final long LONG = 167961599999999L;
    private static final long OUTSIDE = SixtyTablet.LOST - 2;
    private static final long FULL = SixtyTablet.LOST - 4;
    private static final int NO = -5, NONE = -6, UNKNOWN = -1;
    private static final long LOST_NO = SixtyTablet.LOST - 5;
    private static final int MIN = Integer.MIN_VALUE, MAX = Integer.MAX_VALUE;
    private static final BigInteger SIXTY = BigInteger.valueOf(60);
    private static final List<Long> EVENS = evens();

    public static void main(String[] args) {
        allEvenNumbers();
        neighboursAreNotEven();
        otherPartsAreNotEven();
        greatestEvenNumber();
        turnedBelowSixtyToTheEight();
        turnedByPowersOfOnePrime();
        turnedNotEven();
        listFromTwoToEightyOneButSixty();
        listRowsZeroToTwentyEight();
        factorsOfOne();
        factorsOfTheList();
        factorsBeyondTheList();
        factorsTurnOver();
        factorBehindTheLast();
        factorNotEven();
        rootToZeroToThreePlaces();
        rootNotAbove();
        rootBelowSixtyToTheTen();
        rootFarBeyond();
        CHECK.end();
    }

    /** All numbers up to LONG that nothing but 2, 3, 5 parts. */
    private static List<Long> evens() {
        List<Long> all = new ArrayList<>();
        for (long a = 1; a <= LONG; a *= 2) {
            for (long b = a; b <= LONG; b *= 3) {
                for (long c = b; c <= LONG; c *= 5) {
                    all.add(c);
                }
            }
        }
        all.sort(null);
        return all;
    }

    private static BigInteger over(long v) {
        BigInteger left = SIXTY.pow(50).divide(BigInteger.valueOf(v));
        while (left.mod(SIXTY).signum() == 0) {
            left = left.divide(SIXTY);
        }
        return left;
    }

    /** "A number is EVEN, if nothing but 2, 3, 5 parts it": each one up to LONG, 1 the first of them. */
    private static void allEvenNumbers() {
        CHECK.due("the first", EVENS.get(0), 1);
        SixtyTablet x = new SixtyTablet();
        for (int i = 0; i < EVENS.size(); i++) {
            x = i % 500 == 0 ? new SixtyTablet() : x;
            CHECK.due("even(" + EVENS.get(i) + ")", x.even(EVENS.get(i)), 1);
        }
    }

    /** No number between two EVEN ones is EVEN: both sides of each. */
    private static void neighboursAreNotEven() {
        SixtyTablet x = new SixtyTablet();
        for (int i = 1; i + 1 < EVENS.size(); i++) {
            x = i % 200 == 0 ? new SixtyTablet() : x;
            long v = EVENS.get(i);
            CHECK.due("even(" + (v - 1) + ")", x.even(v - 1), EVENS.get(i - 1) == v - 1 ? 1 : 0);
            CHECK.due("even(" + (v + 1) + ")", x.even(v + 1), EVENS.get(i + 1) == v + 1 ? 1 : 0);
        }
    }

    /** "nothing but 2, 3, 5": one other prime is enough, the least one and great ones. */
    private static void otherPartsAreNotEven() {
        SixtyTablet x = new SixtyTablet();
        long great = BigInteger.valueOf(LONG / 61).nextProbablePrime().longValueExact();
        long greatest = BigInteger.valueOf(LONG - 1000).nextProbablePrime().longValueExact();
        for (long prime : new long[] {7, 11, 13, 59, 61, great, greatest}) {
            for (long times : new long[] {1, 2, 3, 5, 60}) {
                if (prime * times <= LONG) {
                    CHECK.due("even(" + prime * times + ")", x.even(prime * times), 0);
                    CHECK.due("turned(" + prime * times + ")", x.turned(prime * times), LOST_NO);
                    CHECK.dueFor("factor(" + prime * times + ")", i -> x.factor(prime * times, i), NO, -1, 0);
                }
            }
        }
        CHECK.due("even(49 60^6)", x.even(49 * 46656000000L), 0);
    }

    /** The greatest EVEN number that is taken, and the next one, which is beyond LONG. */
    private static void greatestEvenNumber() {
        SixtyTablet x = new SixtyTablet();
        CHECK.due("the greatest", EVENS.get(EVENS.size() - 1), 167772160000000L);
        CHECK.due("even of the greatest", x.even(167772160000000L), 1);
        CHECK.due("even(60^8)", x.even(LONG + 1), -2);
        CHECK.due("turned(60^8)", x.turned(LONG + 1), OUTSIDE);
        CHECK.due("factor(60^8, -1)", x.factor(LONG + 1, -1), -2);
        CHECK.due("even(60^7)", x.even(2799360000000L), 1);
    }

    /** "FULL: it is 60 to the 8 or more": each EVEN number, so also the last below and the first beyond. */
    private static void turnedBelowSixtyToTheEight() {
        SixtyTablet x = new SixtyTablet();
        for (int i = 0; i < EVENS.size(); i++) {
            x = i % 500 == 0 ? new SixtyTablet() : x;
            BigInteger over = over(EVENS.get(i));
            boolean full = over.compareTo(SIXTY.pow(8)) >= 0;
            CHECK.due("turned(" + EVENS.get(i) + ")", x.turned(EVENS.get(i)), full ? FULL : over.longValueExact());
        }
        CHECK.due("the greatest that is answered", x.turned(13286025), 163840000000000L);
        // Just 60 to the 8 is no sixty: the least beyond it is 168151253906250.
        CHECK.due("the least that is refused", x.turned(167772160000000L), FULL);
    }

    /** TURNED OVER by the powers of 2, 3, 5: the last that is answered, the first FULL, and the last number of all. */
    private static void turnedByPowersOfOnePrime() {
        SixtyTablet x = new SixtyTablet();
        CHECK.due("turned(2^24): 15^12", x.turned(1L << 24), 129746337890625L);
        CHECK.due("turned(2^23): 2 15^12", x.turned(1L << 23), FULL);
        CHECK.due("turned(2^22): 15^11", x.turned(1L << 22), 8649755859375L);
        CHECK.due("turned(2^25)", x.turned(1L << 25), FULL);
        CHECK.due("turned(2^47)", x.turned(1L << 47), FULL);
        CHECK.due("turned(3^10): 20^10", x.turned(59049), 10240000000000L);
        CHECK.due("turned(3^11)", x.turned(177147), FULL);
        CHECK.due("turned(3^29)", x.turned(68630377364883L), FULL);
        CHECK.due("turned(5^13): 12^13", x.turned(1220703125L), 106993205379072L);
        CHECK.due("turned(5^14)", x.turned(6103515625L), FULL);
        CHECK.due("turned(5^20)", x.turned(95367431640625L), FULL);
        for (long v = 1; v <= LONG / 60; v *= 60) {
            CHECK.due("turned(" + v + ")", x.turned(v), 1);
            CHECK.due("turned(2 " + v + ")", x.turned(2 * v), 30);
        }
    }

    /** "NO: it is not EVEN" */
    private static void turnedNotEven() {
        SixtyTablet x = new SixtyTablet();
        CHECK.dueForGreat("turned", x::turned, LOST_NO, 7, 11, 13, 14, 59, 61, 420, LONG, LONG - 1, LONG - 59);
        CHECK.due("turned(6)", x.turned(6), 10);
        CHECK.due("turned(8)", x.turned(8), 450);
    }

    /** "all EVEN numbers from 2 to 81 but 60, in order" */
    private static void listFromTwoToEightyOneButSixty() {
        SixtyTablet x = new SixtyTablet();
        int row = 0;
        for (long v : EVENS) {
            if (v >= 2 && v <= 81 && v != 60) {
                CHECK.due("list(" + row + ")", x.list(row), v);
                row++;
            }
        }
        CHECK.due("rows", row, 29);
        CHECK.due("ahead of 60", x.list(23), 54);
        CHECK.due("behind 60", x.list(24), 64);
    }

    /** "ROWS 0 to 28", "i = -1: how many ROWS. UNKNOWN." */
    private static void listRowsZeroToTwentyEight() {
        SixtyTablet x = new SixtyTablet();
        CHECK.due("list(-1)", x.list(-1), 29);
        CHECK.due("list(0)", x.list(0), 2);
        CHECK.due("list(28)", x.list(28), 81);
        CHECK.dueFor("list", x::list, UNKNOWN, 29, -2, 30, -3, 60, MIN, MAX);
    }

    /** "as long as v is neither 1 ..; at last v, if it is not 1": numbers whose SIXTY is 1 have no FACTORS. */
    private static void factorsOfOne() {
        SixtyTablet x = new SixtyTablet();
        for (long v = 1; v <= LONG; v *= 60) {
            long so = v;
            CHECK.dueAll("factor(" + v + ")", i -> x.factor(so, i), NONE);
        }
    }

    /** ".. nor in THE LIST": each ROW is its own one FACTOR, with zeros at its end, too. */
    private static void factorsOfTheList() {
        SixtyTablet x = new SixtyTablet();
        for (int row = 0; row < 29; row++) {
            int v = x.list(row);
            CHECK.dueAll("factor(" + v + ")", i -> new SixtyTablet().factor(v, i), NONE, v);
            CHECK.due("factor(" + v + " 60, 0)", x.factor(v * 60L, 0), v);
            CHECK.due("factor(" + v + " 60, -1)", x.factor(v * 60L, -1), 1);
        }
    }

    /** "the greatest number of THE LIST that parts v is written": the first numbers behind THE LIST. */
    private static void factorsBeyondTheList() {
        SixtyTablet x = new SixtyTablet();
        CHECK.dueAll("90", i -> x.factor(90, i), NONE, 45, 2);
        CHECK.dueAll("96", i -> x.factor(96, i), NONE, 48, 2);
        CHECK.dueAll("100", i -> x.factor(100, i), NONE, 50, 2);
        CHECK.dueAll("108", i -> x.factor(108, i), NONE, 54, 2);
        CHECK.dueAll("128", i -> x.factor(128, i), NONE, 64, 2);
        CHECK.dueAll("144", i -> x.factor(144, i), NONE, 72, 2);
        CHECK.dueAll("150", i -> x.factor(150, i), NONE, 75, 2);
        CHECK.dueAll("160", i -> x.factor(160, i), NONE, 80, 2);
        CHECK.dueAll("243", i -> x.factor(243, i), NONE, 81, 3);
        // 60 is not in the list, and its sixty is 1: 120 is 2, not 60 and 2.
        CHECK.dueAll("120", i -> x.factor(120, i), NONE, 2);
        CHECK.dueAll("4800: 80", i -> x.factor(4800, i), NONE, 80);
    }

    /** "(The SIXTIES of what they are turned over, times one another, are what the number is turned over.)" */
    private static void factorsTurnOver() {
        Model model = new Model();
        for (int i = 0; i < EVENS.size(); i++) {
            long v = EVENS.get(i);
            SixtyTablet x = new SixtyTablet();
            int many = x.factor(v, -1);
            CHECK.due("factors of " + v, many, model.factor(v, -1));
            BigInteger over = BigInteger.ONE;
            for (int f = 0; f < many; f++) {
                over = over.multiply(BigInteger.valueOf(x.turned(x.factor(v, f))));
            }
            while (over.mod(SIXTY).signum() == 0) {
                over = over.divide(SIXTY);
            }
            CHECK.due("the factors of " + v + " turn it over", over.equals(over(v)) ? 1 : 0, 1);
        }
    }

    /** "FACTORS: how many (i = -1), the i-th; NONE": on both sides. */
    private static void factorBehindTheLast() {
        SixtyTablet x = new SixtyTablet();
        CHECK.dueFor("no factors", i -> x.factor(60, i), NONE, 0, 1, -2, MIN, MAX);
        CHECK.dueFor("one factor", i -> x.factor(2, i), NONE, 1, 2, -2, MIN, MAX);
        CHECK.due("eight factors, the last", x.factor(1L << 47, 7), 32);
        CHECK.dueFor("eight factors", i -> x.factor(1L << 47, i), NONE, 8, 9, 47, 48, -2, MIN, MAX);
        // 5 to the 20 is parted by 25 alone: ten factors.
        CHECK.due("ten factors, the last", x.factor(95367431640625L, 9), 25);
        CHECK.dueFor("ten factors", i -> x.factor(95367431640625L, i), NONE, 10, -2);
    }

    /** "NO: it is not EVEN", whatever i is. */
    private static void factorNotEven() {
        SixtyTablet x = new SixtyTablet();
        CHECK.dueFor("factor(7)", i -> x.factor(7, i), NO, -1, 0, 1, -2, MIN, MAX);
        CHECK.dueFor("factor(2 3 5 7)", i -> x.factor(210, i), NO, -1, 0, 1);
        CHECK.due("factor(82, -1)", x.factor(82, -1), NO);
    }

    /** "to p PLACES (0 to 3)" */
    private static void rootToZeroToThreePlaces() {
        SixtyTablet x = new SixtyTablet();
        CHECK.due("root(2, 0)", x.root(2, 0), 1);
        CHECK.due("root(2, 1)", x.root(2, 1), 84);
        CHECK.due("root(2, 2)", x.root(2, 2), 5091);
        CHECK.due("root(2, 3)", x.root(2, 3), 305470);
        CHECK.dueFor("root(2)", p -> x.root(2, p), OUTSIDE, -1, 4, -2, 5, MIN, MAX);
    }

    /** "the greatest r with r r not above v 3600 to the p": just a square, one less, one more. */
    private static void rootNotAbove() {
        for (int p = 0; p <= 3; p++) {
            SixtyTablet x = new SixtyTablet();
            for (long side : new long[] {1, 2, 3, 59, 60, 61, 3599}) {
                long scaled = side;
                for (int i = 0; i < p; i++) {
                    scaled *= 60;
                }
                CHECK.due("root(" + side * side + ", " + p + ")", x.root(side * side, p), scaled);
                if (side > 1) {
                    BigInteger less = BigInteger.valueOf(side * side - 1).multiply(BigInteger.valueOf(3600).pow(p));
                    CHECK.due("one less", x.root(side * side - 1, p), less.sqrt().longValueExact());
                }
                BigInteger more = BigInteger.valueOf(side * side + 1).multiply(BigInteger.valueOf(3600).pow(p));
                CHECK.due("one more", x.root(side * side + 1, p), more.sqrt().longValueExact());
            }
        }
        SixtyTablet x = new SixtyTablet();
        long greatest = 12959999;
        CHECK.due("the greatest square", x.root(greatest * greatest, 0), greatest);
        CHECK.due("one less", x.root(greatest * greatest - 1, 0), greatest - 1);
        CHECK.due("one more", x.root(greatest * greatest + 1, 0), greatest);
        CHECK.due("root(LONG, 0)", x.root(LONG, 0), greatest);
    }

    /** "FULL: beyond 60 to the 10, or just that": the last below, just that, one more, for each p. */
    private static void rootBelowSixtyToTheTen() {
        SixtyTablet x = new SixtyTablet();
        CHECK.due("p = 0, LONG", x.root(LONG, 0), 12959999);
        CHECK.due("p = 1, LONG", x.root(LONG, 1), 777599999);
        CHECK.due("p = 2, the last below", x.root(46655999999L, 2), 777599999);
        CHECK.due("p = 2, just 60^10", x.root(46656000000L, 2), FULL);
        CHECK.due("p = 2, one more", x.root(46656000001L, 2), FULL);
        CHECK.due("p = 3, the last below", x.root(12959999, 3), 777599969);
        CHECK.due("p = 3, just 60^10", x.root(12960000, 3), FULL);
        CHECK.due("p = 3, one more", x.root(12960001, 3), FULL);
    }

    /** FULL where the number itself would go round: LONG times 3600 to the 3 is beyond all long numbers. */
    private static void rootFarBeyond() {
        SixtyTablet x = new SixtyTablet();
        for (long v = 12960000; v <= LONG / 2; v *= 2) {
            CHECK.due("root(" + v + ", 3)", x.root(v, 3), FULL);
            CHECK.due("root(" + v + ", 2)", x.root(v, 2) == FULL ? 1 : 0, v >= 46656000000L ? 1 : 0);
        }
        CHECK.due("root(LONG, 2)", x.root(LONG, 2), FULL);
        CHECK.due("root(LONG, 3)", x.root(LONG, 3), FULL);
    }
}
