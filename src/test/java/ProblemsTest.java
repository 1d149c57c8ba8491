/** Promises 27 to 31: problem, unit, wipe, units, told. */
public final class ProblemsTest {
    private static final Check CHECK = new Check();
    private static final long LOST = SixtyTablet.LOST;
    private static final long LONG = 167961599999999L;
    private static final int MILLION = 1000000;

    public static void main(String[] args) {
        problems();
        wrongProblems();
        units();
        told();
        CHECK.end();
    }

    private static void both(SixtyTablet x, int kind, int a, int b, long first, long second) {
        CHECK.due("problem(" + kind + ", " + a + ", " + b + ", 0)", x.problem(kind, a, b, 0), first);
        CHECK.due("problem(" + kind + ", " + a + ", " + b + ", 1)", x.problem(kind, a, b, 1), second);
    }

    private static void problems() {
        SixtyTablet x = new SixtyTablet();
        long no = LOST - 5;
        both(x, 0, MILLION, MILLION, 1000000000000L, 0);
        both(x, 0, 1, 1, 1, 0);
        both(x, 1, 1, 1, 1, 0);
        both(x, 1, 60, 2, 30, 0);
        both(x, 1, 6, 3, 2, 0);
        both(x, 1, 5, 8, 2250, 0);
        both(x, 1, 7200, 60, 2, 0);
        both(x, 1, 1, 7, no, no);
        // 3 to the 10 turned over is 10240000000000: times 16 it is below 60 to the 8, times 17 not.
        both(x, 1, 16, 59049, 163840000000000L, 0);
        both(x, 1, 17, 59049, no, no);
        both(x, 1, 17 * 60, 59049, no, no);
        both(x, 1, 16 * 60, 59049, 163840000000000L, 0);
        both(x, 1, 1, 177147, no, no);
        // 2 to the 16 turned over is 15 to the 8: times 2 to the 16 just 60 to the 8.
        both(x, 1, 65536, 65536, no, no);
        both(x, 1, 65535, 65536, 167959037109375L, 0);
        both(x, 2, 1, 1, 1, 0);
        both(x, 2, MILLION, MILLION, 1000, 0);
        both(x, 2, 999999, 1, no, no);
        both(x, 2, 2, 5, no, no);
        both(x, 3, 2, 1, 1, 1);
        both(x, 3, 2, 2, no, no);
        both(x, 3, 1, 1, no, no);
        both(x, 3, 5, 6, 3, 2);
        both(x, 3, 5, 5, no, no);
        both(x, 3, MILLION, 999999, 999999, 1);
        both(x, 3, 2000, MILLION, 1000, 1000);
        both(x, 4, 1, 2, 2, 1);
        both(x, 4, 1, 1, no, no);
        both(x, 4, 999999, MILLION, MILLION, 1);
        both(x, 4, MILLION, MILLION, no, no);
        both(x, 5, MILLION, MILLION, 1000000000000L, 0);
        both(x, 5, 9, 12, 108, 0);
    }

    private static void wrongProblems() {
        SixtyTablet x = new SixtyTablet();
        for (int wrong : new int[] {0, -1, MILLION + 1, Integer.MIN_VALUE, Integer.MAX_VALUE}) {
            for (int kind = 0; kind < 6; kind++) {
                both(x, kind, wrong, 1, LOST - 2, LOST - 2);
                both(x, kind, 1, wrong, LOST - 2, LOST - 2);
            }
        }
        for (int wrong : new int[] {-1, 6, Integer.MIN_VALUE, Integer.MAX_VALUE}) {
            both(x, wrong, 4, 4, LOST - 2, LOST - 2);
        }
        for (int wrong : new int[] {-1, 2, Integer.MIN_VALUE, Integer.MAX_VALUE}) {
            CHECK.due("part " + wrong, x.problem(0, 4, 4, wrong), LOST - 2);
            CHECK.due("part " + wrong + " of none", x.problem(1, 1, 7, wrong), LOST - 2);
        }
    }

    private static void units() {
        SixtyTablet x = new SixtyTablet();
        for (int wrong : new int[] {1, 0, -1, 101, Integer.MIN_VALUE, Integer.MAX_VALUE}) {
            CHECK.due("unit(" + wrong + ")", x.unit(wrong), -2);
        }
        CHECK.due("unit(2)", x.unit(2), 1);
        CHECK.due("unit(100)", x.unit(100), 2);
        CHECK.due("units(999, 0)", x.units(999, 0), 1);
        CHECK.due("units(999, 1)", x.units(999, 1), 99);
        CHECK.due("units(999, 2)", x.units(999, 2), 4);
        CHECK.due("units(999, 3)", x.units(999, 3), LOST - 1);
        CHECK.due("units(999, -1)", x.units(999, -1), LOST - 1);
        CHECK.due("unknown ahead of outside", x.units(-1, 3), LOST - 1);
        CHECK.due("units(LONG, 2)", x.units(LONG, 2), LONG / 200);
        for (long wrong : new long[] {-1, LONG + 1, Long.MIN_VALUE, Long.MAX_VALUE}) {
            CHECK.due("units(" + wrong + ", 0)", x.units(wrong, 0), LOST - 2);
        }
        CHECK.due("unit(3)", x.unit(3), 3);
        CHECK.due("unit(4)", x.unit(4), 4);
        CHECK.due("unit(5)", x.unit(5), 5);
        CHECK.due("outside ahead of full", x.unit(1), -2);
        CHECK.due("unit(6)", x.unit(6), -4);
        CHECK.due("units(12345678, 5)", x.units(12345678, 5), 12345678 / 12000);
        CHECK.due("units(12345678, 4)", x.units(12345678, 4), 12345678 / 2400 % 5);
        CHECK.due("units(0, 3)", x.units(0, 3), 0);
        CHECK.due("wipe()", x.wipe(), 5);
        CHECK.due("wipe() again", x.wipe(), 0);
        CHECK.due("units(999, 1) then", x.units(999, 1), LOST - 1);
        CHECK.due("units(999, 0) then", x.units(999, 0), 999);
        CHECK.due("unit(7)", x.unit(7), 1);
        CHECK.due("units(999, 1) by 7", x.units(999, 1), 142);
    }

    private static void told() {
        SixtyTablet x = new SixtyTablet();
        x.times(61, 62);
        x.unit(9);
        for (int t = 0; t < 4; t++) {
            x.tablet(t, t + 2);
            x.press(t, t, 1, 5);
        }
        int[] want = {4, 1, 2, 3, 4, 5, 5, 8, 11, 14};
        for (int what = 0; what < want.length; what++) {
            CHECK.due("told(" + what + ")", x.told(what), want[what]);
        }
        for (int wrong : new int[] {-1, 10, Integer.MIN_VALUE, Integer.MAX_VALUE}) {
            CHECK.due("told(" + wrong + ")", x.told(wrong), -2);
        }
    }
}
