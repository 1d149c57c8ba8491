import java.util.Random;

/** Long runs of drawn calls, the same each time, on the class and on the model: all answers have to be the same. */
public final class ModelTest {
    private static final int RUNS = 900;
    /** An object is used for 512 calls; the last step may take some forty, and those that draw an e are not counted. */
    private static final int CALLS = 440;
    private static final int CALL_KINDS = 30;
    private static final long LONG = 167961599999999L;
    private static final int[] INT_EDGES = {Integer.MIN_VALUE, Integer.MAX_VALUE, -2, -1, 0, 1, 9, 10, 60, 100};
    private static final long[] LONG_EDGES = {
        Long.MIN_VALUE, Long.MAX_VALUE, -1, 0, 1, 59, 60, LONG, LONG + 1, 12959999, 12960000, 46656000000L, 46655999999L
    };

    private final Check check = new Check();
    private final Random draw;
    private SixtyTablet x;
    private Model model;
    private long end;

    private ModelTest(long seed) {
        draw = new Random(seed);
    }

    public static void main(String[] args) {
        ModelTest test = new ModelTest(20261116);
        int runs = args.length > 0 ? Integer.parseInt(args[0]) : RUNS;
        for (int run = 0; run < runs && test.check.wrongSoFar() < 20; run++) {
            test.x = new SixtyTablet();
            test.model = new Model();
            test.end = 0;
            int ahead = test.check.callsSoFar();
            while (test.check.callsSoFar() - ahead < CALLS) {
                test.one(test.draw.nextInt(CALL_KINDS));
            }
        }
        test.check.end();
    }

    /** Mostly from low to high, now and then an edge or a neighbour of the ends. */
    private int within(int low, int high) {
        int way = draw.nextInt(24);
        if (way == 0) {
            return INT_EDGES[draw.nextInt(INT_EDGES.length)];
        }
        if (way == 1) {
            return draw.nextBoolean() ? low - 1 : high + 1;
        }
        return low + draw.nextInt(high - low + 1);
    }

    private long number() {
        switch (draw.nextInt(8)) {
            case 0: return LONG_EDGES[draw.nextInt(LONG_EDGES.length)];
            case 1: return 1 + draw.nextInt(100);
            case 2: return 1 + draw.nextInt(13000000);
            case 3: return 1 + (draw.nextLong() >>> 1) % LONG;
            case 4: return gappy();
            default: return even();
        }
    }

    private long gappy() {
        long v = 0;
        for (int d = draw.nextInt(8); d >= 0; d--) {
            v = v * 60 + (draw.nextInt(3) == 0 ? 1 + draw.nextInt(59) : 0);
        }
        return v;
    }

    private long even() {
        long v = 1;
        int[] primes = {2, 3, 5};
        int only = draw.nextInt(5);
        for (int i = draw.nextInt(40); i > 0 && v <= LONG / 5; i--) {
            v *= primes[only < 3 ? only : draw.nextInt(3)];
        }
        return v;
    }

    private int someT() {
        return within(0, 3);
    }

    private int row() {
        return draw.nextInt(3) == 0 ? within(0, 7) : within(0, 2);
    }

    private int pressed() {
        switch (draw.nextInt(6)) {
            case 0: return within(1, 12959999);
            case 1: return 0;
            case 2: return (1 + draw.nextInt(59)) * (1 + draw.nextInt(59));
            case 3: return 60 * (1 + draw.nextInt(59));
            default: return 1 + draw.nextInt(20);
        }
    }

    private void one(int kind) {
        if (kind < 10) {
            numberCall(kind);
        } else if (kind < 15) {
            workingCall(kind);
        } else if (kind < 25) {
            tabletCall(kind);
        } else {
            otherCall(kind);
        }
    }

    private void numberCall(int kind) {
        long v = number();
        long w = number();
        int i = within(-1, 8);
        int d = within(1, 8);
        int k = within(-7, 7);
        int p = within(0, 3);
        String with = " of " + v + ", " + w + "; i " + i + " d " + d + " k " + k + " p " + p;
        switch (kind) {
            case 0: check.due("sixty" + with, x.sixty(v), model.sixty(v)); break;
            case 1: check.due("digit" + with, x.digit(v, i), model.digit(v, i)); break;
            case 2: check.due("sight" + with, x.sight(v, i), model.sight(v, i)); break;
            case 3: check.due("like" + with, x.like(v, d, i), model.like(v, d, i)); break;
            case 4: check.due("put" + with, x.put(v, w, k), model.put(v, w, k)); break;
            case 5: check.due("even" + with, x.even(v), model.even(v)); break;
            case 6: check.due("turned" + with, x.turned(v), model.turned(v)); break;
            case 7: check.due("list" + with, x.list(4 * i), model.list(4 * i)); break;
            case 8: check.due("factor" + with, x.factor(v, i), model.factor(v, i)); break;
            default: check.due("root" + with, x.root(v, p), model.root(v, p)); break;
        }
    }

    private void workingCall(int kind) {
        int i = within(0, 6);
        int j = within(0, 6);
        int what = within(0, 3);
        int which = within(0, 1);
        String with = " " + i + " " + what + " " + which + " " + j;
        switch (kind) {
            case 10:
                long v = draw.nextInt(4) == 0 ? number() : gappy() % 12960000;
                long w = draw.nextInt(4) == 0 ? number() : 1 + draw.nextInt(12959999);
                check.due("times " + v + " " + w, x.times(v, w), model.times(v, w));
                break;
            case 11: check.due("line" + with, x.line(i, what), model.line(i, what)); break;
            case 12: check.due("sum" + with, x.sum(i), model.sum(i)); break;
            case 13:
                long so = x.slip(i, what, which, j);
                check.due("slip" + with, so, model.slip(i, what, which, j));
                end = so > 0 ? so : end;
                break;
            default:
                long last = x.slip(i, what, which, x.told(0) - 1);
                long e = draw.nextBoolean() ? end : draw.nextInt(3) == 0 ? x.sum(x.told(0) - 1) : last;
                int n = within(-1, 2);
                check.due("blame " + e + " " + n, x.blame(e, n), model.blame(e, n));
                break;
        }
    }

    private void tabletCall(int kind) {
        int t = someT();
        int u = someT();
        int row = row();
        int column = within(0, 2);
        int i = within(-1, 3);
        String with = " of " + t + " " + u + ", " + row + " " + column + " " + i;
        switch (kind) {
            case 15:
                int rows = within(1, 4);
                check.due("tablet" + with, x.tablet(t, rows), model.tablet(t, rows));
                break;
            case 16:
                int v = pressed();
                check.due("press" + with + " " + v, x.press(t, row, column, v), model.press(t, row, column, v));
                break;
            case 17: check.due("cell" + with, x.cell(t, row, column), model.cell(t, row, column)); break;
            case 18: copyAndBreak(t); break;
            case 19: check.due("reading" + with, x.reading(t, i), model.reading(t, i)); break;
            case 20: check.due("sure" + with, x.sure(t, row, column), model.sure(t, row, column)); break;
            case 21: check.due("fill" + with, x.fill(t), model.fill(t)); break;
            case 22: check.due("odd" + with, x.odd(t), model.odd(t)); break;
            case 23: check.due("triple" + with, x.triple(t, row, i), model.triple(t, row, i)); break;
            default: check.due("join" + with, x.join(t, u, row), model.join(t, u, row)); break;
        }
        cells(t);
    }

    /** A table's rows, some cells of which break or go wrong. */
    private void copyAndBreak(int t) {
        int kind = within(0, 3);
        int n = kind == 0 ? within(1, 59) : within(0, 0);
        int first = within(0, 58);
        int rows = within(1, 5);
        String with = " " + t + " " + kind + " " + n + " " + first + " " + rows;
        check.due("copy" + with, x.copy(t, kind, n, first, rows), model.copy(t, kind, n, first, rows));
        for (int gone = draw.nextInt(10); gone > 0; gone--) {
            int row = draw.nextInt(5);
            int column = draw.nextInt(3);
            int v = draw.nextInt(12) == 0 ? pressed() : 0;
            check.due("press" + with, x.press(t, row, column, v), model.press(t, row, column, v));
        }
        check.due("how many readings" + with, x.reading(t, -1), model.reading(t, -1));
        check.due("odd" + with, x.odd(t), model.odd(t));
        check.due("sure" + with, x.sure(t, 0, 1), model.sure(t, 0, 1));
    }

    private void cells(int t) {
        for (int row = 0; row < 8; row++) {
            for (int column = 0; column < 3; column++) {
                check.due("cell " + t + " " + row + " " + column, x.cell(t, row, column), model.cell(t, row, column));
            }
        }
    }

    private void otherCall(int kind) {
        switch (kind) {
            case 25: drawnProblem(); break;
            case 26:
                int many = within(2, 100);
                check.due("unit " + many, x.unit(many), model.unit(many));
                break;
            case 27:
                if (draw.nextInt(3) == 0) {
                    check.due("wipe", x.wipe(), model.wipe());
                }
                break;
            case 28:
                long v = number();
                int i = within(0, 5);
                check.due("units " + v + " " + i, x.units(v, i), model.units(v, i));
                break;
            default:
                int what = within(0, 9);
                check.due("told " + what, x.told(what), model.told(what));
                break;
        }
    }

    private void drawnProblem() {
        int kind = within(0, 5);
        int part = within(0, 1);
        int a = draw.nextBoolean() ? within(1, 1000000) : (int) Math.min(1000000, even());
        int b = draw.nextBoolean() ? within(1, 1000000) : (int) Math.min(1000000, even());
        if (draw.nextBoolean()) {
            int length = 1 + draw.nextInt(1000);
            int width = 1 + draw.nextInt(length);
            a = kind == 2 ? length * length : kind == 3 ? length + width : length - width;
            b = length * width;
        }
        String with = "problem " + kind + " " + a + " " + b + " " + part;
        check.due(with, x.problem(kind, a, b, part), model.problem(kind, a, b, part));
    }
}
