import java.util.function.Consumer;
import java.util.function.ToLongFunction;

/** The edges that the head of the Terms names for all calls: the refusals' order, that they change nothing, LONG. */
public final class EdgesTermsTest {
    private static final Check CHECK = new Check();
    private static final long LONG = 167961599999999L;
    private static final long LOST = SixtyTablet.LOST;
    private static final int UNKNOWN = -1, OUTSIDE = -2, STATE = -3, FULL = -4, NO = -5, NONE = -6;
    private static final int MIN = Integer.MIN_VALUE, MAX = Integer.MAX_VALUE;

    public static void main(String[] args) {
        longIsSixtyToTheEightLessOne();
        numbersFromOneToLong();
        numbersOutsideAreRefused();
        firstThatFitsInNumbers();
        firstThatFitsInWorkings();
        firstThatFitsInTablets();
        firstThatFitsInJoins();
        firstThatFitsInProblems();
        refusedNumbersChangeNothing();
        refusedWorkingsChangeNothing();
        refusedTabletsChangeNothing();
        refusedProblemsChangeNothing();
        questionsChangeNothing();
        usedForFiveHundredAndTwelveCalls();
        CHECK.end();
    }

    /** A working, tablets of each sort, two steps. */
    private static void prepare(SixtyTablet x) {
        x.times(3725, 2705);
        x.copy(0, 0, 9, 4, 4);
        x.press(0, 0, 0, 0);
        x.press(0, 1, 2, 0);
        x.copy(1, 3, 0, 32, 8);
        x.press(1, 7, 1, 0);
        x.press(2, 0, 0, 119);
        x.copy(3, 2, 0, 11, 3);
        x.press(3, 1, 2, 170);
        x.unit(30);
        x.unit(12);
    }

    private static void refused(String call, ToLongFunction<SixtyTablet> asked, long want) {
        CHECK.dueUnchanged(call, EdgesTermsTest::prepare, asked, want);
    }

    private static void answered(String call, ToLongFunction<SixtyTablet> asked, long want) {
        CHECK.dueUnchanged(call, EdgesTermsTest::prepare, asked, want);
    }

    /** "LONG (60 to the 8, less 1)" */
    private static void longIsSixtyToTheEightLessOne() {
        long power = 1;
        for (int i = 0; i < 8; i++) {
            power *= 60;
        }
        CHECK.due("60 to the 8, less 1", power - 1, LONG);
        CHECK.due("sixty(LONG)", new SixtyTablet().sixty(power - 1), power - 1);
        CHECK.due("sixty(LONG and 1)", new SixtyTablet().sixty(power), LOST + OUTSIDE);
    }

    /** "Numbers given as v, x, y are 1 to LONG": the first and the last that are taken. */
    private static void numbersFromOneToLong() {
        SixtyTablet x = new SixtyTablet();
        CHECK.due("sixty(1)", x.sixty(1), 1);
        CHECK.due("sixty(LONG)", x.sixty(LONG), LONG);
        CHECK.due("digit(1, 0)", x.digit(1, 0), 1);
        CHECK.due("digit(LONG, 7)", x.digit(LONG, 7), 59);
        CHECK.due("sight(1, 0)", x.sight(1, 0), 1);
        CHECK.due("sight(LONG, 7)", x.sight(LONG, 7), 59);
        CHECK.due("like(1, 8, 0)", x.like(1, 8, 0), 1);
        CHECK.due("like(LONG, 8, 0)", x.like(LONG, 8, 0), LONG);
        CHECK.due("put(1, 1, 0)", x.put(1, 1, 0), 2);
        CHECK.due("put(LONG, 1, 0) is taken, and too great", x.put(LONG, 1, 0), LOST + FULL);
        CHECK.due("put(1, LONG, 0) is taken, and too great", x.put(1, LONG, 0), LOST + FULL);
        CHECK.due("even(1)", x.even(1), 1);
        CHECK.due("even(LONG)", x.even(LONG), 0);
        CHECK.due("turned(1)", x.turned(1), 1);
        CHECK.due("turned(LONG)", x.turned(LONG), LOST + NO);
        CHECK.due("factor(1, -1)", x.factor(1, -1), 0);
        CHECK.due("factor(LONG, -1)", x.factor(LONG, -1), NO);
        CHECK.due("root(1, 0)", x.root(1, 0), 1);
        CHECK.due("root(LONG, 0)", x.root(LONG, 0), 12959999);
    }

    /** "Numbers given as v, x, y are 1 to LONG": the first ones that are refused, and the farthest, on both sides. */
    private static void numbersOutsideAreRefused() {
        for (long v : new long[] {0, LONG + 1, -1, -LONG, -60, Long.MIN_VALUE, Long.MAX_VALUE}) {
            SixtyTablet x = new SixtyTablet();
            CHECK.due("sixty(" + v + ")", x.sixty(v), LOST + OUTSIDE);
            CHECK.dueFor("digit(" + v + ")", i -> x.digit(v, i), OUTSIDE, -1, 0, 8, -2, MIN, MAX);
            CHECK.dueFor("sight(" + v + ")", i -> x.sight(v, i), OUTSIDE, -1, 0, 8, -2, MIN, MAX);
            CHECK.dueFor("like(" + v + ", 8)", i -> x.like(v, 8, i), LOST + OUTSIDE, -1, 0, 36, -2, MIN, MAX);
            CHECK.dueFor("put(" + v + ", 1)", k -> x.put(v, 1, k), LOST + OUTSIDE, -8, -7, 0, 7, 8);
            CHECK.dueFor("put(1, " + v + ")", k -> x.put(1, v, k), LOST + OUTSIDE, -8, -7, 0, 7, 8);
            CHECK.due("even(" + v + ")", x.even(v), OUTSIDE);
            CHECK.due("turned(" + v + ")", x.turned(v), LOST + OUTSIDE);
            CHECK.dueFor("factor(" + v + ")", i -> x.factor(v, i), OUTSIDE, -1, 0, 48, -2, MIN, MAX);
            CHECK.dueFor("root(" + v + ")", p -> x.root(v, p), LOST + OUTSIDE, -1, 0, 3, 4);
        }
    }

    /** "the first of these that fits": OUTSIDE ahead of FULL, NO and NONE. */
    private static void firstThatFitsInNumbers() {
        refused("digit: OUTSIDE, NONE", x -> x.digit(0, 9), OUTSIDE);
        refused("sight: OUTSIDE, NONE", x -> x.sight(LONG + 1, 9), OUTSIDE);
        refused("like: OUTSIDE of v, NONE", x -> x.like(0, 8, 99), LOST + OUTSIDE);
        refused("like: OUTSIDE of d, NONE", x -> x.like(61, 0, 0), LOST + OUTSIDE);
        refused("put: OUTSIDE of k, FULL", x -> x.put(LONG, LONG, 8), LOST + OUTSIDE);
        refused("put: OUTSIDE of k below, FULL", x -> x.put(LONG, LONG, -8), LOST + OUTSIDE);
        refused("put: OUTSIDE of x, FULL", x -> x.put(LONG + 1, LONG, 7), LOST + OUTSIDE);
        refused("put: OUTSIDE of y, FULL", x -> x.put(LONG, LONG + 1, 7), LOST + OUTSIDE);
        refused("turned: OUTSIDE, NO", x -> x.turned(LONG + 2), LOST + OUTSIDE);
        refused("turned: OUTSIDE, FULL", x -> x.turned(1L << 48), LOST + OUTSIDE);
        refused("factor: OUTSIDE, NO", x -> x.factor(LONG + 2, -1), OUTSIDE);
        refused("factor: NO, NONE", x -> x.factor(7, 99), NO);
        refused("root: OUTSIDE of p, FULL", x -> x.root(LONG, 4), LOST + OUTSIDE);
        refused("root: OUTSIDE of v, FULL", x -> x.root(LONG + 1, 3), LOST + OUTSIDE);
    }

    /** "the first of these that fits": UNKNOWN ahead of OUTSIDE, OUTSIDE ahead of NO, STATE ahead of NONE. */
    private static void firstThatFitsInWorkings() {
        refused("line: UNKNOWN, OUTSIDE", x -> x.line(6, 4), UNKNOWN);
        refused("slip: UNKNOWN of i, OUTSIDE", x -> x.slip(6, 4, 2, 0), LOST + UNKNOWN);
        refused("slip: UNKNOWN of j, OUTSIDE", x -> x.slip(0, -1, -1, 6), LOST + UNKNOWN);
        // Line 0 is 45 at place 3: nothing of it can be left out.
        refused("slip: UNKNOWN of j, NO", x -> x.slip(0, 0, 0, 6), LOST + UNKNOWN);
        refused("slip: UNKNOWN of j below, NO", x -> x.slip(0, 0, 0, -1), LOST + UNKNOWN);
        refused("slip: OUTSIDE of which, NO", x -> x.slip(0, 0, 2, 0), LOST + OUTSIDE);
        refused("slip: OUTSIDE of which, in KIND 1", x -> x.slip(0, 1, 2, 0), LOST + OUTSIDE);
        refused("slip: OUTSIDE of KIND, NO", x -> x.slip(0, 4, 1, 0), LOST + OUTSIDE);
        CHECK.dueUnchanged("slip: UNKNOWN, OUTSIDE, no working", x -> { }, x -> x.slip(0, 4, 2, 0), LOST + UNKNOWN);
        CHECK.dueUnchanged("line: UNKNOWN, OUTSIDE, no working", x -> { }, x -> x.line(0, 4), UNKNOWN);
        CHECK.dueUnchanged("blame: STATE, NONE", x -> { }, x -> x.blame(1, 0), STATE);
        CHECK.dueUnchanged("blame: STATE, NONE below", x -> { }, x -> x.blame(1, -2), STATE);
    }

    /** "the first of these that fits": UNKNOWN ahead of OUTSIDE ahead of NO; UNKNOWN ahead of NONE. */
    private static void firstThatFitsInTablets() {
        for (int t : new int[] {-1, 4}) {
            refused("tablet: UNKNOWN, OUTSIDE", x -> x.tablet(t, 9), UNKNOWN);
            refused("press: UNKNOWN, OUTSIDE", x -> x.press(t, 0, 0, -1), UNKNOWN);
            refused("copy: UNKNOWN, OUTSIDE of KIND", x -> x.copy(t, 4, 0, 0, 1), UNKNOWN);
            refused("copy: UNKNOWN, OUTSIDE of n", x -> x.copy(t, 0, 60, 0, 1), UNKNOWN);
            refused("copy: UNKNOWN, OUTSIDE of ROWS", x -> x.copy(t, 0, 1, 0, 9), UNKNOWN);
            refused("copy: UNKNOWN, NO", x -> x.copy(t, 0, 1, 59, 1), UNKNOWN);
            refused("reading: UNKNOWN, NONE", x -> x.reading(t, -2), UNKNOWN);
            refused("triple: UNKNOWN, NONE", x -> x.triple(t, 0, -2), UNKNOWN);
        }
        refused("press: UNKNOWN ROW, OUTSIDE", x -> x.press(0, 4, 0, 12960000), UNKNOWN);
        refused("press: UNKNOWN COLUMN, OUTSIDE", x -> x.press(0, 0, 3, -1), UNKNOWN);
        refused("copy: OUTSIDE of KIND, NO", x -> x.copy(0, 4, 0, 59, 1), OUTSIDE);
        refused("copy: OUTSIDE of n, NO", x -> x.copy(0, 3, 1, 40, 1), OUTSIDE);
        refused("copy: OUTSIDE of n in TIMES, NO", x -> x.copy(0, 0, 0, 59, 1), OUTSIDE);
        refused("copy: OUTSIDE of ROWS, NO", x -> x.copy(0, 2, 0, 59, 9), OUTSIDE);
        refused("copy: OUTSIDE of no ROWS, NO", x -> x.copy(0, 2, 0, 60, 0), OUTSIDE);
        refused("copy: OUTSIDE of ROWS, NO below", x -> x.copy(0, 1, 0, -1, 0), OUTSIDE);
        refused("triple: UNKNOWN ROW, NONE", x -> x.triple(2, 1, 99), UNKNOWN);
    }

    /** "the first of these that fits": UNKNOWN, OUTSIDE, STATE, FULL, NO, each ahead of those behind it. */
    private static void firstThatFitsInJoins() {
        refused("UNKNOWN second, OUTSIDE", x -> x.join(0, 4, 8), UNKNOWN);
        refused("UNKNOWN first, OUTSIDE", x -> x.join(-1, 0, -1), UNKNOWN);
        refused("UNKNOWN as one, OUTSIDE", x -> x.join(0, 0, 8), UNKNOWN);
        refused("UNKNOWN as one, STATE", x -> x.join(0, 0, 5), UNKNOWN);
        refused("UNKNOWN as one, FULL", x -> x.join(1, 1, 1), UNKNOWN);
        refused("UNKNOWN as one, NO", x -> x.join(0, 0, 1), UNKNOWN);
        refused("UNKNOWN as both are none", x -> x.join(4, 4, 0), UNKNOWN);
        refused("OUTSIDE, STATE", x -> x.join(0, 2, 8), OUTSIDE);
        refused("OUTSIDE, STATE and FULL", x -> x.join(0, 1, 8), OUTSIDE);
        // Tablet 1 has eight rows: row 8 is just behind its last one, but s goes to 7.
        refused("OUTSIDE, FULL", x -> x.join(1, 2, 8), OUTSIDE);
        refused("OUTSIDE below, NO", x -> x.join(0, 3, -1), OUTSIDE);
        refused("STATE, FULL", x -> x.join(0, 1, 5), STATE);
        refused("STATE, FULL, at 7", x -> x.join(2, 3, 7), STATE);
        refused("FULL, NO", x -> x.join(0, 1, 1), FULL);
        refused("NO alone", x -> x.join(0, 3, 0), NO);
    }

    /** "the first of these that fits": OUTSIDE ahead of NO and FULL; UNKNOWN ahead of OUTSIDE. */
    private static void firstThatFitsInProblems() {
        refused("problem: OUTSIDE of part, NO", x -> x.problem(1, 1, 7, 2), LOST + OUTSIDE);
        refused("problem: OUTSIDE of x, NO", x -> x.problem(1, 0, 7, 0), LOST + OUTSIDE);
        refused("problem: OUTSIDE of y, NO", x -> x.problem(2, 5, 0, 0), LOST + OUTSIDE);
        refused("problem: OUTSIDE of KIND, NO", x -> x.problem(6, 1, 7, 0), LOST + OUTSIDE);
        Consumer<SixtyTablet> full = x -> {
            for (int step = 0; step < 5; step++) {
                x.unit(2 + step);
            }
        };
        CHECK.dueUnchanged("unit: OUTSIDE, FULL", full, x -> x.unit(1), OUTSIDE);
        CHECK.dueUnchanged("unit: OUTSIDE above, FULL", full, x -> x.unit(101), OUTSIDE);
        CHECK.dueUnchanged("unit: FULL", full, x -> x.unit(2), FULL);
        CHECK.dueUnchanged("units: UNKNOWN, OUTSIDE", full, x -> x.units(-1, 6), LOST + UNKNOWN);
        CHECK.dueUnchanged("units: UNKNOWN, OUTSIDE above", full, x -> x.units(LONG + 1, -1), LOST + UNKNOWN);
    }

    /** "They change nothing": the calls of the first two parts. */
    private static void refusedNumbersChangeNothing() {
        refused("sixty", x -> x.sixty(0), LOST + OUTSIDE);
        refused("digit", x -> x.digit(0, -1), OUTSIDE);
        refused("sight", x -> x.sight(0, -1), OUTSIDE);
        refused("like", x -> x.like(1, 9, -1), LOST + OUTSIDE);
        refused("put", x -> x.put(LONG, 1, 0), LOST + FULL);
        refused("even", x -> x.even(0), OUTSIDE);
        refused("turned, NO", x -> x.turned(7), LOST + NO);
        refused("turned, FULL", x -> x.turned(177147), LOST + FULL);
        refused("list", x -> x.list(29), UNKNOWN);
        refused("factor", x -> x.factor(7, -1), NO);
        refused("root", x -> x.root(LONG, 2), LOST + FULL);
    }

    /** "They change nothing": a refused WORKING leaves the one that is there, on either side of its bounds. */
    private static void refusedWorkingsChangeNothing() {
        for (long wrong : new long[] {0, -1, 12960000, Long.MIN_VALUE, Long.MAX_VALUE}) {
            refused("times of x " + wrong, x -> x.times(wrong, 1), OUTSIDE);
            refused("times of y " + wrong, x -> x.times(1, wrong), OUTSIDE);
            refused("times of both " + wrong, x -> x.times(wrong, wrong), OUTSIDE);
            CHECK.dueUnchanged("times of x, none ahead", x -> { }, x -> x.times(wrong, 1), OUTSIDE);
            CHECK.dueUnchanged("times of y, none ahead", x -> { }, x -> x.times(1, wrong), OUTSIDE);
        }
        refused("line", x -> x.line(6, 0), UNKNOWN);
        refused("sum", x -> x.sum(6), LOST + UNKNOWN);
        refused("slip", x -> x.slip(0, 0, 0, 0), LOST + NO);
    }

    /** "They change nothing": tablets keep their ROWS and what their CELLS hold. */
    private static void refusedTabletsChangeNothing() {
        for (int t = 0; t < 4; t++) {
            int clay = t;
            for (int rows : new int[] {0, 9, -1, MIN, MAX}) {
                refused("tablet", x -> x.tablet(clay, rows), OUTSIDE);
                refused("copy, ROWS", x -> x.copy(clay, 0, 1, 0, rows), OUTSIDE);
            }
            for (int v : new int[] {-1, 12960000, MIN, MAX}) {
                refused("press", x -> x.press(clay, 0, 0, v), OUTSIDE);
            }
            refused("press, ROW", x -> x.press(clay, 8, 0, 1), UNKNOWN);
            refused("press, COLUMN", x -> x.press(clay, 0, 3, 1), UNKNOWN);
            refused("copy, KIND", x -> x.copy(clay, -1, 0, 0, 2), OUTSIDE);
            refused("copy, n", x -> x.copy(clay, 0, 0, 0, 2), OUTSIDE);
            refused("copy, NO", x -> x.copy(clay, 3, 0, 39, 2), NO);
        }
        for (int none : new int[] {-1, 4, MIN, MAX}) {
            refused("tablet", x -> x.tablet(none, 1), UNKNOWN);
            refused("press", x -> x.press(none, 0, 0, 1), UNKNOWN);
            refused("copy", x -> x.copy(none, 0, 1, 0, 1), UNKNOWN);
            refused("fill", x -> x.fill(none), UNKNOWN);
            refused("join, the first", x -> x.join(none, 0, 0), UNKNOWN);
            refused("join, the second", x -> x.join(0, none, 0), UNKNOWN);
        }
    }

    /** "They change nothing": steps stay. */
    private static void refusedProblemsChangeNothing() {
        for (int many : new int[] {1, 101, 0, -2, MIN, MAX}) {
            refused("unit", x -> x.unit(many), OUTSIDE);
        }
        refused("problem", x -> x.problem(0, 0, 1, 0), LOST + OUTSIDE);
        refused("units", x -> x.units(1, 3), LOST + UNKNOWN);
        refused("told", x -> x.told(10), OUTSIDE);
    }

    /** Calls that only answer leave the state as it is, too: there are no "state changes" but those "described". */
    private static void questionsChangeNothing() {
        answered("like", x -> x.like(61, 8, -1), 7);
        answered("factor", x -> x.factor(125, -1), 2);
        answered("slip", x -> x.slip(2, 0, 0, 5), 9860125);
        answered("blame", x -> x.blame(10083325, -1), 1);
        answered("reading", x -> x.reading(0, -1), 1);
        answered("reading of none", x -> x.reading(3, 0), NONE);
        answered("sure", x -> x.sure(0, 0, 0), 9);
        answered("odd", x -> x.odd(3), 1);
        answered("triple", x -> x.triple(2, 0, 0), 1205);
        answered("problem", x -> x.problem(5, 9, 12, 0), 108);
        answered("units", x -> x.units(391, 1), 1);
    }

    /** "An object is used for at most 512 calls": the 512th still answers as the first, and pressed numbers last. */
    private static void usedForFiveHundredAndTwelveCalls() {
        SixtyTablet x = new SixtyTablet();
        for (int call = 1; call <= 510; call++) {
            CHECK.due("press, call " + call, x.press(3, 0, call % 3, call), Math.max(0, call - 3));
        }
        CHECK.due("times, call 511", x.times(12959999, 12959999), 16);
        CHECK.due("told, call 512", x.told(9), 0);
        SixtyTablet y = new SixtyTablet();
        for (int call = 1; call <= 511; call++) {
            CHECK.due("unit, call " + call, y.unit(2), call <= 5 ? call : FULL);
        }
        CHECK.due("wipe, call 512", y.wipe(), 5);
    }
}
