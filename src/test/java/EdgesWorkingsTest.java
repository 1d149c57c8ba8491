/** The edges that the document names for promises 12 to 16: times, line, sum, slip, blame. */
public final class EdgesWorkingsTest {
    private static final Check CHECK = new Check();
    private static final long LOST = SixtyTablet.LOST;
    private static final long UNKNOWN = LOST - 1, OUTSIDE = LOST - 2, NO = LOST - 5;
    private static final int NONE = -6;
    private static final int END = 12960000;
    private static final int MIN = Integer.MIN_VALUE, MAX = Integer.MAX_VALUE;

    public static void main(String[] args) {
        bothBelowSixtyToTheFour();
        linesForDigitsThatAreNotZero();
        zerosAtTheEndCountAsPlaces();
        fromTheFirstOn();
        aNewWorkingTakesThePlaceOfTheOld();
        noSuchLine();
        noSuchWhat();
        noSuchSum();
        sumsUpToTheEnd();
        leftOutB();
        leftOutA();
        placeLost();
        rowBesideOneLess();
        rowBesideOneMore();
        writtenTwiceA();
        writtenTwiceB();
        sumsFromTheLineOn();
        slipLinesUnknown();
        slipKindsAndWhich();
        noSuchSlipAheadOfItsLine();
        greatestSlips();
        noWorkingToBlame();
        blamesUnlikeTheEnd();
        blamesInOrder();
        blameBehindTheLast();
        blamesOfAnyNumber();
        CHECK.end();
    }

    private static SixtyTablet working(long x, long y) {
        SixtyTablet made = new SixtyTablet();
        made.times(x, y);
        return made;
    }

    /** "x times y (both below 60 to the 4)", "OUTSIDE": the first and last taken, the first refused on both sides. */
    private static void bothBelowSixtyToTheFour() {
        SixtyTablet x = new SixtyTablet();
        CHECK.due("times(1, 1)", x.times(1, 1), 1);
        CHECK.due("times(END - 1, 1)", x.times(END - 1, 1), 4);
        CHECK.due("times(1, END - 1)", x.times(1, END - 1), 4);
        CHECK.due("times(END - 1, END - 1)", x.times(END - 1, END - 1), 16);
        long[] wrong = {0, END, -1, END + 1, 167961599999999L, 167961600000000L, Long.MIN_VALUE, Long.MAX_VALUE};
        CHECK.dueForGreat("x", v -> x.times(v, 1), -2, wrong);
        CHECK.dueForGreat("y", v -> x.times(1, v), -2, wrong);
        // 60 to the 4 and below, as int numbers: what a cast would bring back among those that are taken.
        CHECK.dueForGreat("x, cut off", v -> x.times(v, 1), -2, (1L << 32) + 1, (1L << 40) + 61);
        CHECK.dueForGreat("y, cut off", v -> x.times(1, v), -2, (1L << 32) + 1, (1L << 40) + 61);
    }

    /** "for each DIGIT of x that is not 0 .. and each DIGIT of y that is not 0": one alone, all four. */
    private static void linesForDigitsThatAreNotZero() {
        SixtyTablet x = new SixtyTablet();
        CHECK.due("1.0.0.1 times 1.0.0.1", x.times(216001, 216001), 4);
        int[] places = {6, 3, 3, 0};
        for (int i = 0; i < places.length; i++) {
            CHECK.due("place of line " + i, x.line(i, 1), places[i]);
        }
        CHECK.due("1.0.1.0 times 59", x.times(216060, 59), 2);
        CHECK.due("0.0.1.0 times 0.1.0.0", x.times(60, 3600), 1);
        CHECK.due("1.1.1.1 times 1.0.0.0", x.times(219661, 216000), 4);
        CHECK.due("1.0.0.0 times 1.1.1.1", x.times(216000, 219661), 4);
        CHECK.due("1.1.1.1 times 1.1.1.1", x.times(219661, 219661), 16);
    }

    /** "(x, y are taken as they are, zeros at the end, too)": PLACES 0 to 6. */
    private static void zerosAtTheEndCountAsPlaces() {
        long px = 1;
        for (int i = 0; i <= 3; i++) {
            long py = 1;
            for (int j = 0; j <= 3; j++) {
                SixtyTablet x = working(px, py);
                CHECK.due("lines", x.told(0), 1);
                CHECK.due("place of 60^" + i + " times 60^" + j, x.line(0, 1), i + j);
                CHECK.due("the end", x.sum(0), px * py);
                py *= 60;
            }
            px *= 60;
        }
    }

    /** "from the first on": the DIGITS of y go round within those of x. */
    private static void fromTheFirstOn() {
        SixtyTablet x = working(3661 + 60, 2 * 3600 + 3);
        // 1.2.1 times 2.0.3
        int[][] want = {{2, 4, 1, 2}, {3, 2, 1, 3}, {4, 3, 2, 2}, {6, 1, 2, 3}, {2, 2, 1, 2}, {3, 0, 1, 3}};
        CHECK.due("lines", x.told(0), 6);
        for (int i = 0; i < want.length; i++) {
            for (int what = 0; what < 4; what++) {
                CHECK.due("line(" + i + ", " + what + ")", x.line(i, what), want[i][what]);
            }
        }
    }

    /** A WORKING of less LINES leaves none of the old ones. */
    private static void aNewWorkingTakesThePlaceOfTheOld() {
        SixtyTablet x = working(END - 1, END - 1);
        CHECK.due("line 15", x.line(15, 0), 3481);
        x.times(61, 2);
        CHECK.due("told", x.told(0), 2);
        CHECK.due("the last line", x.line(1, 0), 2);
        CHECK.dueFor("lines that are gone", i -> x.line(i, 0), -1, 2, 3, 15);
        CHECK.dueFor("sums that are gone", x::sum, UNKNOWN, 2, 3, 15);
        CHECK.dueFor("slips that are gone", i -> x.slip(i, 2, 1, 0), UNKNOWN, 2, 15);
        CHECK.due("blames of the old end", x.blame(3480L * 3480, -1), 0);
    }

    /** "line .. UNKNOWN": on both sides of the LINES, and without a WORKING. */
    private static void noSuchLine() {
        CHECK.dueFor("no working", i -> new SixtyTablet().line(i, 0), -1, 0, -1, 1, 15, 16, MIN, MAX);
        SixtyTablet one = working(1, 1);
        CHECK.due("line(0, 0)", one.line(0, 0), 1);
        CHECK.dueFor("one line", i -> one.line(i, 0), -1, 1, -1, 2, MIN, MAX);
        SixtyTablet all = working(END - 1, END - 1);
        CHECK.due("line(15, 0)", all.line(15, 0), 3481);
        CHECK.dueFor("all lines", i -> all.line(i, 0), -1, 16, -1, 17, MIN, MAX);
    }

    /** "0 the product, 1 its PLACE, 2 the DIGIT of x, 3 that of y .. OUTSIDE" */
    private static void noSuchWhat() {
        SixtyTablet x = working(2 * 60, 3);
        CHECK.due("what 0", x.line(0, 0), 6);
        CHECK.due("what 1", x.line(0, 1), 1);
        CHECK.due("what 2", x.line(0, 2), 2);
        CHECK.due("what 3", x.line(0, 3), 3);
        CHECK.dueFor("what", what -> x.line(0, what), -2, -1, 4, -2, 5, MIN, MAX);
    }

    /** "sum .. UNKNOWN (LOST less 1)": on both sides, and without a WORKING. */
    private static void noSuchSum() {
        CHECK.dueFor("no working", i -> new SixtyTablet().sum(i), UNKNOWN, 0, -1, 1, 16, MIN, MAX);
        SixtyTablet one = working(1, 1);
        CHECK.due("sum(0)", one.sum(0), 1);
        CHECK.dueFor("one line", one::sum, UNKNOWN, 1, -1, MIN, MAX);
        SixtyTablet all = working(END - 1, END - 1);
        CHECK.due("sum(15)", all.sum(15), (END - 1L) * (END - 1));
        CHECK.dueFor("all lines", all::sum, UNKNOWN, 16, -1, 17, MIN, MAX);
    }

    /** "SUM 0 is LINE 0, each other one the SUM ahead and the LINE .. The last SUM is THE END." */
    private static void sumsUpToTheEnd() {
        for (long[] of : new long[][] {{END - 1, END - 1}, {1, END - 1}, {216001, 3600}, {59, 59}, {60, 60}}) {
            SixtyTablet x = working(of[0], of[1]);
            long ahead = 0;
            for (int i = 0; i < x.told(0); i++) {
                long worth = x.line(i, 0);
                for (int place = 0; place < x.line(i, 1); place++) {
                    worth *= 60;
                }
                ahead += worth;
                CHECK.due("sum(" + i + ")", x.sum(i), ahead);
            }
            CHECK.due("the end of " + of[0] + " times " + of[1], x.sum(x.told(0) - 1), of[0] * of[1]);
        }
    }

    /** "which 0: b alone is written (a not 0)": products 59, 60, 61 or next to them. */
    private static void leftOutB() {
        CHECK.due("59: no a", working(1, 59).slip(0, 0, 0, 0), NO);
        CHECK.due("58: no a", working(2, 29).slip(0, 0, 0, 0), NO);
        CHECK.due("60: b is 0", working(2, 30).slip(0, 0, 0, 0), 0);
        CHECK.due("62: b is 2", working(2, 31).slip(0, 0, 0, 0), 2);
        CHECK.due("119 is 1.59", working(7, 17).slip(0, 0, 0, 0), 59);
        CHECK.due("3481 is 58.1", working(59, 59).slip(0, 0, 0, 0), 1);
        CHECK.due("at place 6", working(59 * 216000, 59 * 216000).slip(0, 0, 0, 0), 46656000000L);
    }

    /** "1: a alone, as b (a, b not 0)" */
    private static void leftOutA() {
        CHECK.due("59: no a", working(1, 59).slip(0, 0, 1, 0), NO);
        CHECK.due("60: no b", working(2, 30).slip(0, 0, 1, 0), NO);
        CHECK.due("120: no b", working(4, 30).slip(0, 0, 1, 0), NO);
        CHECK.due("62", working(2, 31).slip(0, 0, 1, 0), 1);
        CHECK.due("3481", working(59, 59).slip(0, 0, 1, 0), 58);
        CHECK.due("3481 at place 6", working(59 * 216000, 59 * 216000).slip(0, 0, 1, 0), 58 * 46656000000L);
    }

    /** "1 a PLACE lost: which 0: it is written one PLACE lower (not at PLACE 0)" */
    private static void placeLost() {
        CHECK.due("at place 0", working(59, 59).slip(0, 1, 0, 0), NO);
        CHECK.due("at place 1", working(60, 59).slip(0, 1, 0, 0), 59);
        CHECK.due("at place 6", working(216000, 216000).slip(0, 1, 0, 0), 777600000);
        CHECK.due("which 1, at place 0", working(59, 59).slip(0, 1, 1, 0), NO);
        CHECK.due("which 1, at place 1", working(60, 59).slip(0, 1, 1, 0), NO);
        CHECK.due("which 1, at place 6", working(216000, 216000).slip(0, 1, 1, 0), NO);
    }

    /** "the DIGIT of y one less (which 0, if that is 1 or more)" */
    private static void rowBesideOneLess() {
        CHECK.due("1", working(59, 1).slip(0, 2, 0, 0), NO);
        CHECK.due("2", working(59, 2).slip(0, 2, 0, 0), 59);
        CHECK.due("59", working(59, 59).slip(0, 2, 0, 0), 59 * 58);
        // It is the digit of y, not that of x.
        CHECK.due("1 times 59", working(1, 59).slip(0, 2, 0, 0), 58);
        CHECK.due("1 at place 3", working(1, 216000).slip(0, 2, 0, 0), NO);
    }

    /** "one more (1, if it is 59 or less)" */
    private static void rowBesideOneMore() {
        CHECK.due("59", working(1, 59).slip(0, 2, 1, 0), NO);
        CHECK.due("58", working(1, 58).slip(0, 2, 1, 0), 59);
        CHECK.due("1", working(59, 1).slip(0, 2, 1, 0), 118);
        CHECK.due("59 at place 3", working(1, 59 * 216000).slip(0, 2, 1, 0), NO);
        CHECK.due("58 at place 6", working(59 * 216000, 58 * 216000).slip(0, 2, 1, 0), 3481 * 46656000000L);
    }

    /** "written twice: which 0: a, a, b (a not 0)" */
    private static void writtenTwiceA() {
        CHECK.due("59: no a", working(1, 59).slip(0, 3, 0, 0), NO);
        CHECK.due("60: 1, 1, 0", working(2, 30).slip(0, 3, 0, 0), 3660);
        CHECK.due("62: 1, 1, 2", working(2, 31).slip(0, 3, 0, 0), 3662);
        CHECK.due("3481: 58, 58, 1", working(59, 59).slip(0, 3, 0, 0), 58 * 3660 + 1);
    }

    /** "1: a, b, b (b not 0)" */
    private static void writtenTwiceB() {
        CHECK.due("60: no b", working(2, 30).slip(0, 3, 1, 0), NO);
        CHECK.due("1: 0, 1, 1", working(1, 1).slip(0, 3, 1, 0), 61);
        CHECK.due("59: 0, 59, 59", working(1, 59).slip(0, 3, 1, 0), 3599);
        CHECK.due("62: 1, 2, 2", working(2, 31).slip(0, 3, 1, 0), 3722);
        CHECK.due("3481: 58, 1, 1", working(59, 59).slip(0, 3, 1, 0), 58 * 3600 + 61);
    }

    /** "All SUMS from LINE i on are other then": that of LINE i itself the first, those ahead as they were. */
    private static void sumsFromTheLineOn() {
        for (int i = 0; i < 16; i++) {
            SixtyTablet x = working(END - 1, END - 1);
            long other = x.slip(i, 2, 0, i) - x.sum(i);
            CHECK.due("line " + i + " is other", other < 0 ? 1 : 0, 1);
            for (int j = 0; j < 16; j++) {
                CHECK.due("slip in " + i + ", sum " + j, x.slip(i, 2, 0, j), x.sum(j) + (j < i ? 0 : other));
            }
        }
    }

    /** "UNKNOWN (LOST less 1): LINES": i and j on both sides, and without a WORKING. */
    private static void slipLinesUnknown() {
        CHECK.dueFor("no working", i -> new SixtyTablet().slip(i, 2, 1, i), UNKNOWN, 0, -1, 1, MIN, MAX);
        SixtyTablet x = working(61, 2);
        CHECK.due("i = j = 1", x.slip(1, 2, 1, 1), 123);
        CHECK.dueFor("i", i -> x.slip(i, 2, 1, 0), UNKNOWN, 2, -1, 15, 16, MIN, MAX);
        CHECK.dueFor("j", j -> x.slip(0, 2, 1, j), UNKNOWN, 2, -1, 15, 16, MIN, MAX);
        SixtyTablet all = working(END - 1, END - 1);
        CHECK.due("i = j = 15", all.slip(15, 2, 0, 15), (END - 1L) * (END - 1) - 59);
        CHECK.dueFor("i of 16 lines", i -> all.slip(i, 2, 0, 15), UNKNOWN, 16, -1, MIN, MAX);
        CHECK.dueFor("j of 16 lines", j -> all.slip(15, 2, 0, j), UNKNOWN, 16, -1, MIN, MAX);
    }

    /** "OUTSIDE (LOST less 2): KIND 0 to 3, which 0, 1" */
    private static void slipKindsAndWhich() {
        SixtyTablet x = working(2 * 60, 31);
        // 62 is 1.2 at place 1.
        long[][] want = {{120, 60}, {62, NO}, {3600, 3840}, {219720, 223320}};
        for (int kind = 0; kind < 4; kind++) {
            for (int which = 0; which < 2; which++) {
                CHECK.due("kind " + kind + ", which " + which, x.slip(0, kind, which, 0), want[kind][which]);
            }
            int so = kind;
            CHECK.dueFor("which, in kind " + kind, which -> x.slip(0, so, which, 0), OUTSIDE, -1, 2, -2, MIN, MAX);
        }
        CHECK.dueFor("kind", kind -> x.slip(0, kind, 0, 0), OUTSIDE, -1, 4, -2, 5, MIN, MAX);
        CHECK.dueFor("kind, which 1", kind -> x.slip(0, kind, 1, 0), OUTSIDE, -1, 4, MIN, MAX);
    }

    /** "NO (LOST less 5): there is no such slip there": also for a SUM ahead of the LINE. */
    private static void noSuchSlipAheadOfItsLine() {
        SixtyTablet x = working(61, 2);
        CHECK.due("a place lost in the last line", x.slip(1, 1, 0, 1), NO);
        CHECK.due("a place lost, the sum ahead", x.slip(1, 1, 0, 0), NO);
        CHECK.due("a place lost in the first line", x.slip(0, 1, 0, 1), 4);
    }

    /** Slips in the greatest LINE: written twice it goes beyond 60 to the 8, and is told as it is. */
    private static void greatestSlips() {
        SixtyTablet x = working(59 * 216000, 59 * 216000);
        long place = 46656000000L;
        CHECK.due("58, 58, 1", x.slip(0, 3, 0, 0), (58 * 3660 + 1) * place);
        CHECK.due("58, 1, 1", x.slip(0, 3, 1, 0), (58 * 3600 + 61) * place);
        CHECK.dueAll("to blame for it", i -> x.blame((58 * 3660 + 1) * place, i), NONE, 30);
        // 59 times 58 is 57.2, 55 times 59 is 54.5: the greatest b with a great a is that of 53 times 53, 46.49.
        SixtyTablet y = working(53 * 216000, 53 * 216000);
        CHECK.due("46, 49, 49", y.slip(0, 3, 1, 0), (46 * 3600 + 49 * 61) * place);
    }

    /** "STATE: there is no WORKING", whatever is asked; a refused one makes none. */
    private static void noWorkingToBlame() {
        SixtyTablet x = new SixtyTablet();
        CHECK.dueFor("blame(0)", n -> x.blame(0, n), -3, -1, 0, 1, -2, MIN, MAX);
        CHECK.dueForGreat("blame", e -> x.blame(e, -1), -3, 1, -1, Long.MIN_VALUE, Long.MAX_VALUE);
        x.times(0, 1);
        x.times(1, END);
        CHECK.due("after refused workings", x.blame(1, -1), -3);
        x.times(1, 1);
        CHECK.due("the least working", x.blame(2, -1), 1);
    }

    /** "the slips with which THE END is e, unlike THE END without" */
    private static void blamesUnlikeTheEnd() {
        SixtyTablet one = working(1, 1);
        CHECK.dueAll("the end 1", n -> one.blame(1, n), NONE);
        CHECK.dueAll("one more: the row beside", n -> one.blame(2, n), NONE, 21);
        CHECK.dueAll("0", n -> one.blame(0, n), NONE);
        CHECK.dueAll("written twice", n -> one.blame(61, n), NONE, 31);
        SixtyTablet all = working(END - 1, END - 1);
        CHECK.dueAll("the greatest end", n -> all.blame((END - 1L) * (END - 1), n), NONE);
        // A sum ahead of the end is not the end.
        SixtyTablet x = working(61, 2);
        CHECK.dueAll("sum 0", n -> x.blame(120, n), NONE);
        CHECK.dueAll("the end with the row beside in line 1", n -> x.blame(121, n), NONE, 120);
    }

    /** "in order of LINES, KINDS, which", "100 times the LINE, 10 times the KIND, and which": each code by itself. */
    private static void blamesInOrder() {
        SixtyTablet x = working(2 * 60 + 2, 31 * 60 + 31);
        for (int i = 0; i < 4; i++) {
            for (int slip = 0; slip < 8; slip++) {
                long e = x.slip(i, slip / 2, slip % 2, 3);
                int code = 100 * i + 10 * (slip / 2) + slip % 2;
                if (e > 0) {
                    CHECK.due("blame for " + code, has(x, e, code) ? 1 : 0, 1);
                }
            }
        }
        SixtyTablet all = working(END - 1, END - 1);
        long end = (END - 1L) * (END - 1);
        CHECK.dueAll("the last of all", n -> all.blame(end - 3481 + 58 * 3600 + 61, n), NONE, 1531);
        // One less in y: lines at place 3 are 3, 6, 9, 12.
        CHECK.dueAll("four lines alike", n -> all.blame(end - 59 * 216000, n), NONE, 320, 620, 920, 1220);
    }

    private static boolean has(SixtyTablet x, long e, int code) {
        int ahead = -1;
        boolean found = false;
        for (int n = 0; n < x.blame(e, -1); n++) {
            int one = x.blame(e, n);
            CHECK.due("in order behind " + ahead, one > ahead ? 1 : 0, 1);
            found |= one == code;
            ahead = one;
        }
        return found;
    }

    /** "BLAMES: how many (n = -1), the n-th ..; NONE": on both sides. */
    private static void blameBehindTheLast() {
        SixtyTablet x = working(61, 61);
        CHECK.due("how many", x.blame(3781, -1), 3);
        CHECK.due("the first", x.blame(3781, 0), 121);
        CHECK.due("the last", x.blame(3781, 2), 331);
        CHECK.dueFor("beyond", n -> x.blame(3781, n), NONE, 3, 4, -2, MIN, MAX);
        CHECK.dueFor("none at all", n -> x.blame(5, n), NONE, 0, 1, -2, MIN, MAX);
    }

    /** BLAMES of numbers that no WORKING ends in: there are none, and nothing is refused. */
    private static void blamesOfAnyNumber() {
        SixtyTablet x = working(END - 1, END - 1);
        CHECK.dueForGreat("how many", e -> x.blame(e, -1), 0, 0, -1, 1, Long.MIN_VALUE, Long.MAX_VALUE, LOST, LOST - 5);
        CHECK.dueForGreat("the first", e -> x.blame(e, 0), NONE, 0, -1, 1, Long.MIN_VALUE, Long.MAX_VALUE);
        SixtyTablet sixty = working(30, 2);
        CHECK.dueAll("an end of 0: b alone of 60", n -> sixty.blame(0, n), NONE, 0);
        // What a slip that is not there would be told as is no end.
        CHECK.dueForGreat("-1", e -> sixty.blame(e, -1), 0, -1, NO);
    }
}
