/** The edges that the document names for promises 27 to 31: problem, unit, wipe, units, told. */
public final class EdgesProblemsTest {
    private static final Check CHECK = new Check();
    private static final long LOST = SixtyTablet.LOST;
    private static final long UNKNOWN = LOST - 1, OUTSIDE = LOST - 2, NO = LOST - 5;
    private static final long LONG = 167961599999999L;
    private static final int MILLION = 1000000;
    private static final int MIN = Integer.MIN_VALUE, MAX = Integer.MAX_VALUE;

    public static void main(String[] args) {
        kindsZeroToFive();
        numbersUpToAMillion();
        partsZeroAndOne();
        fieldsAndDays();
        sharedByEvenNumbers();
        turnedOverSixtyToTheEight();
        timesTheSixtyOfXBelow();
        sharedAsASixty();
        sidesOfSquares();
        lengthAndWidthTogether();
        lengthMoreThanWidth();
        noAnswerForBothParts();
        stepsOfTwoToAHundred();
        upToFiveSteps();
        wipeTellsHowMany();
        unitsUpToTheSteps();
        unitsOfZeroToLong();
        unitsOfTheLeastAndGreatest();
        toldZeroToNine();
        toldOfNothingAndOfAll();
        CHECK.end();
    }

    private static void both(int kind, int x, int y, long first, long second) {
        SixtyTablet one = new SixtyTablet();
        CHECK.due("problem(" + kind + ", " + x + ", " + y + ", 0)", one.problem(kind, x, y, 0), first);
        CHECK.due("problem(" + kind + ", " + x + ", " + y + ", 1)", one.problem(kind, x, y, 1), second);
    }

    /** "PROBLEMS: 0 .. 5", "OUTSIDE" */
    private static void kindsZeroToFive() {
        SixtyTablet x = new SixtyTablet();
        CHECK.due("kind 0", x.problem(0, 1, 1, 0), 1);
        CHECK.due("kind 5", x.problem(5, 1, 1, 0), 1);
        CHECK.dueFor("kind", kind -> x.problem(kind, 1, 1, 0), OUTSIDE, -1, 6, -2, 7, MIN, MAX);
    }

    /** "(x, y 1 to 1000000 ..)": in each PROBLEM, also a y that the answer does not need. */
    private static void numbersUpToAMillion() {
        for (int kind = 0; kind <= 5; kind++) {
            int so = kind;
            SixtyTablet x = new SixtyTablet();
            int[] wrong = {0, MILLION + 1, -1, -MILLION, MIN, MAX};
            CHECK.dueFor("x of kind " + kind, v -> x.problem(so, v, 1, 0), OUTSIDE, wrong);
            CHECK.dueFor("y of kind " + kind, v -> x.problem(so, 1, v, 0), OUTSIDE, wrong);
            CHECK.dueFor("x of kind " + kind + ", part 1", v -> x.problem(so, v, 1, 1), OUTSIDE, wrong);
            CHECK.dueFor("y of kind " + kind + ", part 1", v -> x.problem(so, 1, v, 1), OUTSIDE, wrong);
        }
        both(0, 1, 1, 1, 0);
        both(0, MILLION, MILLION, 1000000000000L, 0);
        both(1, 1, 1, 1, 0);
        // A million times 46656, what it is turned over, is 60 to the 6.
        both(1, MILLION, MILLION, 1, 0);
        both(2, 1, MILLION, 1, 0);
        both(2, MILLION, 1, 1000, 0);
        both(3, MILLION, MILLION, NO, NO);
        both(3, 2, 1, 1, 1);
        both(4, MILLION, 1, NO, NO);
        both(4, 1, MILLION, NO, NO);
        both(5, MILLION, MILLION, 1000000000000L, 0);
    }

    /** "its answer (part = 0), its second (1; 0, if there is but one)", "OUTSIDE" */
    private static void partsZeroAndOne() {
        SixtyTablet x = new SixtyTablet();
        for (int kind = 0; kind <= 5; kind++) {
            int so = kind;
            CHECK.dueFor("part of kind " + kind, part -> x.problem(so, 4, 4, part), OUTSIDE, -1, 2, -2, 3, MIN, MAX);
        }
        both(0, 4, 4, 16, 0);
        both(1, 4, 4, 1, 0);
        both(2, 4, 4, 2, 0);
        both(3, 4, 4, 2, 2);
        both(3, 5, 4, 4, 1);
        both(4, 3, 4, 4, 1);
        both(5, 4, 4, 16, 0);
    }

    /** Products beyond all int numbers: the last one that an int holds, and those behind it. */
    private static void fieldsAndDays() {
        for (int kind : new int[] {0, 5}) {
            both(kind, 46340, 46341, 2147441940L, 0);
            both(kind, 46341, 46341, 2147488281L, 0);
            both(kind, 65536, 65536, 4294967296L, 0);
            both(kind, MILLION, 1, MILLION, 0);
            both(kind, 1, MILLION, MILLION, 0);
        }
    }

    /** "1 x shared by y (EVEN)", "NO: .. in 1: y is not EVEN" */
    private static void sharedByEvenNumbers() {
        both(1, 7, 1, 7, 0);
        both(1, 7, 2, 210, 0);
        both(1, 7, 6, 70, 0);
        both(1, 7, 7, NO, NO);
        both(1, 14, 7, NO, NO);
        both(1, 7, 8, 3150, 0);
        both(1, 1, 999999, NO, NO);
        both(1, 1, MILLION, 46656, 0);
    }

    /** "or what it is turned over .. is 60 to the 8 or more" */
    private static void turnedOverSixtyToTheEight() {
        both(1, 1, 59049, 10240000000000L, 0);
        both(1, 1, 177147, NO, NO);
        both(1, 60, 177147, NO, NO);
        // Though 3 to the 11 shared by itself is 1.
        both(1, 177147, 177147, NO, NO);
        both(1, 1, 531441, NO, NO);
        both(1, 1, 524288, 2 * 576650390625L, 0);
    }

    /** "or that times the SIXTY of x, is 60 to the 8 or more": the last below, just that, the first beyond. */
    private static void timesTheSixtyOfXBelow() {
        both(1, 16, 59049, 163840000000000L, 0);
        both(1, 17, 59049, NO, NO);
        both(1, 16 * 60, 59049, 163840000000000L, 0);
        both(1, 17 * 60, 59049, NO, NO);
        both(1, 16 * 3600, 59049, 163840000000000L, 0);
        // 2 to the 16 turned over is 15 to the 8, and 4 to the 8 times that just 60 to the 8, whose sixty would be 1.
        both(1, 65535, 65536, 167959037109375L, 0);
        both(1, 65536, 65536, NO, NO);
        both(1, 65537, 65536, NO, NO);
        both(1, 32768, 65536, 30, 0);
        both(1, MILLION, 65536, NO, NO);
    }

    /** "the SIXTY of x times what y is turned over": without zeros at the end. */
    private static void sharedAsASixty() {
        both(1, 60, 1, 1, 0);
        both(1, 3600, 60, 1, 0);
        both(1, 2, 2, 1, 0);
        both(1, 120, 2, 1, 0);
        both(1, 59, 729, 59 * 64000000L, 0);
    }

    /** "2 a square of x: its side": whole alone. */
    private static void sidesOfSquares() {
        both(2, 1, 1, 1, 0);
        both(2, 2, 1, NO, NO);
        both(2, 3, 1, NO, NO);
        both(2, 4, 1, 2, 0);
        both(2, 998000, 1, NO, NO);
        both(2, 998001, 1, 999, 0);
        both(2, 998002, 1, NO, NO);
        both(2, 999999, 1, NO, NO);
        both(2, MILLION, 1, 1000, 0);
    }

    /** "3 length and width together are x, the area is y: the length (the greater one); the width" */
    private static void lengthAndWidthTogether() {
        both(3, 1, 1, NO, NO);
        both(3, 2, 1, 1, 1);
        both(3, 2, 2, NO, NO);
        both(3, 3, 1, NO, NO);
        both(3, 3, 2, 2, 1);
        both(3, 3, 3, NO, NO);
        // Just a square, an area of one less, of one more.
        both(3, 20, 100, 10, 10);
        both(3, 20, 99, 11, 9);
        both(3, 20, 101, NO, NO);
        both(3, 20, 98, NO, NO);
        both(3, 20, 19, 19, 1);
        both(3, 20, 18, NO, NO);
        both(3, 2000, MILLION, 1000, 1000);
        both(3, 1999, MILLION, NO, NO);
        both(3, 2001, MILLION, NO, NO);
        both(3, MILLION, 999999, 999999, 1);
        both(3, MILLION, 999998, NO, NO);
        both(3, MILLION, MILLION, NO, NO);
        both(3, 999999, 999998, 999998, 1);
    }

    /** "4 the length is more than the width by x, the area is y: likewise" */
    private static void lengthMoreThanWidth() {
        both(4, 1, 1, NO, NO);
        both(4, 1, 2, 2, 1);
        both(4, 1, 3, NO, NO);
        both(4, 2, 3, 3, 1);
        both(4, 1, 999000, 1000, 999);
        both(4, 1, 999001, NO, NO);
        both(4, 1, 998999, NO, NO);
        both(4, 999999, MILLION, MILLION, 1);
        both(4, 999999, 999999, NO, NO);
        both(4, MILLION, MILLION, NO, NO);
        both(4, 999998, 999999, 999999, 1);
    }

    /** "NO: it has no whole answer above 0 (both, if there are two)": part 1 is refused as part 0 is. */
    private static void noAnswerForBothParts() {
        both(1, 1, 7, NO, NO);
        both(2, 5, 1, NO, NO);
        both(3, 5, 5, NO, NO);
        both(4, 5, 5, NO, NO);
        // Halves: 2.5 and 2.5 together are 5; 3.5 and 0.5 differ by 3.
        both(3, 4, 5, NO, NO);
        both(3, 5, 7, NO, NO);
        both(4, 3, 2, NO, NO);
    }

    /** "UNITS: up to 5 steps, each 2 to 100", "OUTSIDE" */
    private static void stepsOfTwoToAHundred() {
        SixtyTablet x = new SixtyTablet();
        CHECK.dueFor("unit", x::unit, -2, 1, 101, 0, -1, 102, MIN, MAX);
        CHECK.due("no steps", x.told(1), 0);
        CHECK.due("unit(2)", x.unit(2), 1);
        CHECK.due("unit(100)", x.unit(100), 2);
        CHECK.dueFor("unit", x::unit, -2, 1, 101, 0, -1, MIN, MAX);
        CHECK.due("two steps", x.told(1), 2);
        CHECK.due("of the least: up to 1", x.units(399, 0), 1);
        CHECK.due("of the next: up to 99", x.units(399, 1), 99);
        CHECK.due("of the greatest", x.units(399, 2), 1);
        CHECK.due("of the least", x.units(400, 0), 0);
        CHECK.due("of the next", x.units(400, 1), 0);
        CHECK.due("of the greatest", x.units(400, 2), 2);
    }

    /** "up to 5 steps", "FULL" */
    private static void upToFiveSteps() {
        SixtyTablet x = new SixtyTablet();
        for (int step = 1; step <= 5; step++) {
            CHECK.due("step " + step, x.unit(100), step);
            CHECK.due("told", x.told(1), step);
        }
        CHECK.dueFor("a sixth", x::unit, -4, 2, 60, 100);
        CHECK.due("five steps stay", x.told(1), 5);
        CHECK.due("the greatest of 100^5", x.units(9999999999L, 5), 0);
        CHECK.due("the greatest of 100^5", x.units(10000000000L, 5), 1);
        CHECK.due("the greatest of LONG", x.units(LONG, 5), 16796);
        CHECK.due("the next of LONG", x.units(LONG, 4), 15);
        CHECK.due("the least of LONG", x.units(LONG, 0), 99);
        CHECK.due("wipe", x.wipe(), 5);
        CHECK.due("a first one again", x.unit(2), 1);
        CHECK.due("of two, not of a hundred", x.units(5, 1), 2);
    }

    /** "All steps go: how many there were": none, one, five. */
    private static void wipeTellsHowMany() {
        for (int many = 0; many <= 5; many++) {
            SixtyTablet x = new SixtyTablet();
            for (int step = 0; step < many; step++) {
                x.unit(10);
            }
            CHECK.due("wipe of " + many, x.wipe(), many);
            CHECK.due("no steps", x.told(1), 0);
            CHECK.due("one unit", x.units(12345, 0), 12345);
            CHECK.due("no other", x.units(12345, 1), UNKNOWN);
            CHECK.due("wipe again", x.wipe(), 0);
        }
    }

    /** "UNIT i (0: the least, up to the steps)", "UNKNOWN: UNIT (LOST less 1, ahead)" */
    private static void unitsUpToTheSteps() {
        SixtyTablet x = new SixtyTablet();
        for (int steps = 0; steps <= 5; steps++) {
            CHECK.due("the least of 0", x.units(0, 0), 0);
            CHECK.due("the greatest of 0", x.units(0, steps), 0);
            CHECK.dueFor("unit", i -> x.units(7, i), UNKNOWN, steps + 1, -1, steps + 2, -2, MIN, MAX);
            CHECK.dueFor("unit, and v", i -> x.units(-1, i), UNKNOWN, steps + 1, -1, MIN, MAX);
            CHECK.dueFor("unit, and v", i -> x.units(LONG + 1, i), UNKNOWN, steps + 1, -1, MIN, MAX);
            x.unit(3);
        }
    }

    /** "of a number v (0 to LONG)", "OUTSIDE" */
    private static void unitsOfZeroToLong() {
        SixtyTablet x = new SixtyTablet();
        long[] wrong = {-1, LONG + 1, -60, Long.MIN_VALUE, Long.MAX_VALUE};
        CHECK.due("0", x.units(0, 0), 0);
        CHECK.due("LONG", x.units(LONG, 0), LONG);
        CHECK.dueForGreat("v", v -> x.units(v, 0), OUTSIDE, wrong);
        x.unit(60);
        CHECK.due("0", x.units(0, 1), 0);
        CHECK.due("LONG, the least", x.units(LONG, 0), 59);
        CHECK.due("LONG, the greatest", x.units(LONG, 1), 2799359999999L);
        CHECK.dueForGreat("v", v -> x.units(v, 0), OUTSIDE, wrong);
        CHECK.dueForGreat("v", v -> x.units(v, 1), OUTSIDE, wrong);
    }

    /** "how many of the greatest, and so on down": one less than a step, just a step. */
    private static void unitsOfTheLeastAndGreatest() {
        SixtyTablet x = new SixtyTablet();
        x.unit(30);
        x.unit(12);
        long[][] want = {{0, 0, 0, 0}, {29, 29, 0, 0}, {30, 0, 1, 0}, {359, 29, 11, 0}, {360, 0, 0, 1}, {361, 1, 0, 1},
            {3600, 0, 0, 10}};
        for (long[] one : want) {
            for (int i = 0; i <= 2; i++) {
                CHECK.due("units(" + one[0] + ", " + i + ")", x.units(one[0], i), one[1 + i]);
            }
        }
    }

    /** "0 LINES, 1 steps, 2 to 5 ROWS of a TABLET, 6 to 9 its BROKEN CELLS. OUTSIDE." */
    private static void toldZeroToNine() {
        SixtyTablet x = new SixtyTablet();
        x.times(61, 62);
        x.unit(9);
        for (int t = 0; t < 4; t++) {
            x.tablet(t, 2 * t + 2);
            for (int row = 0; row <= t; row++) {
                x.press(t, row, 1, 5);
            }
        }
        int[] want = {4, 1, 2, 4, 6, 8, 5, 10, 15, 20};
        for (int what = 0; what < want.length; what++) {
            CHECK.due("told(" + what + ")", x.told(what), want[what]);
        }
        CHECK.dueFor("told", x::told, -2, -1, 10, -2, 11, MIN, MAX);
    }

    /** The least and the most that is told: 0 and 16 LINES, 0 and 5 steps, 1 and 8 ROWS, 0 and 24 BROKEN CELLS. */
    private static void toldOfNothingAndOfAll() {
        SixtyTablet x = new SixtyTablet();
        int[] first = {0, 0, 1, 1, 1, 1, 3, 3, 3, 3};
        for (int what = 0; what < first.length; what++) {
            CHECK.due("told(" + what + ") at first", x.told(what), first[what]);
        }
        x.times(12959999, 12959999);
        for (int step = 0; step < 5; step++) {
            x.unit(2);
        }
        x.tablet(0, 8);
        x.copy(1, 3, 0, 0, 8);
        int[] then = {16, 5, 8, 8, 1, 1, 24, 0, 3, 3};
        for (int what = 0; what < then.length; what++) {
            CHECK.due("told(" + what + ") then", x.told(what), then[what]);
        }
    }
}
