import java.util.function.Consumer;
import java.util.function.ToLongFunction;

/** Counts answers that are not the ones that are due, and ends a test by them. */
final class Check {
    private int calls = 0;
    private int wrong = 0;

    void due(String call, long got, long want) {
        calls++;
        if (got != want) {
            wrong++;
            System.out.println(call + " answered " + got + ", due is " + want);
        }
    }

    /** The answers for i = -1 (how many), each i, and the two beyond both ends. */
    void dueAll(String call, java.util.function.IntToLongFunction asked, long none, long... want) {
        due(call + " how many", asked.applyAsLong(-1), want.length);
        for (int i = 0; i < want.length; i++) {
            due(call + " " + i, asked.applyAsLong(i), want[i]);
        }
        for (int i : new int[] {-2, want.length, want.length + 1, Integer.MIN_VALUE, Integer.MAX_VALUE}) {
            due(call + " " + i, asked.applyAsLong(i), none);
        }
    }

    /** One answer that is due for each of some numbers. */
    void dueFor(String call, java.util.function.IntToLongFunction asked, long want, int... numbers) {
        for (int number : numbers) {
            due(call + " at " + number, asked.applyAsLong(number), want);
        }
    }

    /** As dueFor, for great numbers. */
    void dueForGreat(String call, java.util.function.LongUnaryOperator asked, long want, long... numbers) {
        for (long number : numbers) {
            due(call + " at " + number, asked.applyAsLong(number), want);
        }
    }

    /** An answer of an object so prepared; another object, not asked, has to show the same state afterwards. */
    void dueUnchanged(String call, Consumer<SixtyTablet> prepare, ToLongFunction<SixtyTablet> asked, long want) {
        SixtyTablet x = new SixtyTablet();
        SixtyTablet unasked = new SixtyTablet();
        prepare.accept(x);
        prepare.accept(unasked);
        due(call, asked.applyAsLong(x), want);
        calls++;
        if (!Shown.of(x).equals(Shown.of(unasked))) {
            wrong++;
            System.out.println(call + " changed something:\n" + Shown.of(unasked) + "\n" + Shown.of(x));
        }
    }

    int callsSoFar() {
        return calls;
    }

    int wrongSoFar() {
        return wrong;
    }

    void end() {
        if (calls == 0 || wrong != 0) {
            System.out.println(wrong + " of " + calls + " answers are not as due");
            System.exit(1);
        }
    }
}
