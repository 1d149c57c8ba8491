/** Promises 12 to 16: times, line, sum, slip, blame. */
public final class WorkingsTest {
    private static final Check CHECK = new Check();
    private static final long LOST = SixtyTablet.LOST;
    private static final int END = 12960000;

    public static void main(String[] args) {
        timesAndLines();
        sums();
        refusedTimes();
        slips();
        blames();
        CHECK.end();
    }

    private static void timesAndLines() {
        SixtyTablet x = new SixtyTablet();
        CHECK.due("times(END - 1, END - 1)", x.times(END - 1, END - 1), 16);
        CHECK.due("line(0, 1)", x.line(0, 1), 6);
        CHECK.due("line(15, 1)", x.line(15, 1), 0);
        CHECK.due("line(7, 0)", x.line(7, 0), 3481);
        CHECK.due("line(16, 0)", x.line(16, 0), -1);
        // 2.0.3.0 times 5.0: zeros make no lines, but count as places.
        CHECK.due("times(2.0.3.0, 5.0)", x.times(432180, 300), 2);
        int[][] want = {{10, 4, 2, 5}, {15, 2, 3, 5}};
        for (int i = 0; i < want.length; i++) {
            for (int what = 0; what < 4; what++) {
                CHECK.due("line(" + i + ", " + what + ")", x.line(i, what), want[i][what]);
            }
        }
        CHECK.due("told(0)", x.told(0), 2);
        for (int i : new int[] {-1, 2, Integer.MIN_VALUE, Integer.MAX_VALUE}) {
            CHECK.due("line(" + i + ", 0)", x.line(i, 0), -1);
            CHECK.due("line(" + i + ", 9)", x.line(i, 9), -1);
        }
        for (int what : new int[] {-1, 4, Integer.MIN_VALUE, Integer.MAX_VALUE}) {
            CHECK.due("line(0, " + what + ")", x.line(0, what), -2);
        }
    }

    private static void sums() {
        SixtyTablet x = new SixtyTablet();
        CHECK.due("sum(0) without a working", x.sum(0), LOST - 1);
        x.times(END - 1, END - 1);
        CHECK.due("the end", x.sum(15), (long) (END - 1) * (END - 1));
        CHECK.due("sum(0)", x.sum(0), 3481L * 46656000000L);
        CHECK.due("sum(1)", x.sum(1), 3481L * 46656000000L + 3481L * 777600000L);
        CHECK.due("sum(16)", x.sum(16), LOST - 1);
        CHECK.due("sum(-1)", x.sum(-1), LOST - 1);
        x.times(1, 1);
        CHECK.due("sum(0) of 1", x.sum(0), 1);
        CHECK.due("sum(1) of 1", x.sum(1), LOST - 1);
    }

    private static void refusedTimes() {
        SixtyTablet x = new SixtyTablet();
        for (long wrong : new long[] {0, -1, END, Long.MIN_VALUE, Long.MAX_VALUE}) {
            CHECK.due("times(" + wrong + ", 1)", x.times(wrong, 1), -2);
            CHECK.due("times(1, " + wrong + ")", x.times(1, wrong), -2);
            CHECK.due("no working still", x.blame(1, -1), -3);
        }
        x.times(61, 2);
        CHECK.due("times(0, 5)", x.times(0, 5), -2);
        CHECK.due("the working stays", x.sum(1), 122);
    }

    private static void slips() {
        SixtyTablet x = new SixtyTablet();
        CHECK.due("slip without a working", x.slip(0, 0, 0, 0), LOST - 1);
        // 1.30 times 40: 40 at place 1; 30 times 40 is 20.0 at place 0.
        x.times(90, 40);
        CHECK.due("b alone, 0", x.slip(1, 0, 0, 1), 2400);
        CHECK.due("a alone needs b", x.slip(1, 0, 1, 1), LOST - 5);
        CHECK.due("left out needs a", x.slip(0, 0, 0, 1), LOST - 5);
        CHECK.due("left out needs a", x.slip(0, 0, 1, 1), LOST - 5);
        CHECK.due("place lost", x.slip(0, 1, 0, 1), 40 + 1200);
        CHECK.due("no place to lose", x.slip(1, 1, 0, 1), LOST - 5);
        CHECK.due("place lost has one", x.slip(0, 1, 1, 1), LOST - 5);
        CHECK.due("row ahead", x.slip(1, 2, 0, 1), 2400 + 1170);
        CHECK.due("row behind", x.slip(1, 2, 1, 1), 2400 + 1230);
        CHECK.due("a, a, b", x.slip(1, 3, 0, 1), 2400 + 20 * 3600 + 20 * 60);
        CHECK.due("a, b, b needs b", x.slip(1, 3, 1, 1), LOST - 5);
        CHECK.due("a, a, b needs a", x.slip(0, 3, 0, 1), LOST - 5);
        CHECK.due("0, b, b", x.slip(0, 3, 1, 0), (40 * 60 + 40) * 60);
        CHECK.due("ahead of the slip", x.slip(1, 3, 0, 0), 2400);
        CHECK.due("no slip, ahead of it too", x.slip(1, 3, 1, 0), LOST - 5);
        x.times(1, 1);
        CHECK.due("row ahead of 1", x.slip(0, 2, 0, 0), LOST - 5);
        CHECK.due("row behind 1", x.slip(0, 2, 1, 0), 2);
        x.times(1, 2);
        CHECK.due("row ahead of 2", x.slip(0, 2, 0, 0), 1);
        x.times(2, 58);
        CHECK.due("row behind 58", x.slip(0, 2, 1, 0), 118);
        x.times(2, 59);
        CHECK.due("row behind 59", x.slip(0, 2, 1, 0), LOST - 5);
        CHECK.due("b alone", x.slip(0, 0, 0, 0), 58);
        CHECK.due("a alone", x.slip(0, 0, 1, 0), 1);
        // A slip may go beyond 60 to the 8.
        x.times(END - 1, END - 1);
        CHECK.due("great slip", x.slip(0, 3, 0, 0), ((58L * 60 + 58) * 60 + 1) * 46656000000L);
        wrongSlips(x);
    }

    private static void wrongSlips(SixtyTablet x) {
        x.times(90, 40);
        for (int wrong : new int[] {-1, 4, Integer.MIN_VALUE, Integer.MAX_VALUE}) {
            CHECK.due("line " + wrong, x.slip(wrong, 0, 0, 0), LOST - 1);
            CHECK.due("line " + wrong + ", and kind", x.slip(wrong, 9, 9, 0), LOST - 1);
            CHECK.due("sum " + wrong, x.slip(0, 0, 0, wrong), LOST - 1);
            CHECK.due("kind " + wrong, x.slip(1, wrong, 0, 1), LOST - 2);
            CHECK.due("which " + wrong, x.slip(1, 0, wrong, 1), LOST - 2);
        }
        CHECK.due("line 2", x.slip(2, 0, 0, 0), LOST - 1);
        CHECK.due("sum 2", x.slip(0, 0, 0, 2), LOST - 1);
        CHECK.due("which 2", x.slip(0, 1, 2, 1), LOST - 2);
    }

    private static void blames() {
        SixtyTablet x = new SixtyTablet();
        CHECK.due("blame without a working", x.blame(7, 0), -3);
        // 1.1 times 1.1: four lines 1; at places 2, 1, 1, 0.
        x.times(61, 61);
        // Lines 1 and 2 with a place lost, or with the row behind, end alike.
        CHECK.dueAll("place lost", i -> x.blame(3721 - 60 + 1, i), -6, 110, 210);
        CHECK.dueAll("row behind", i -> x.blame(3721 + 60, i), -6, 121, 221, 331);
        CHECK.dueAll("written twice", i -> x.blame(3721 + 3600, i), -6, 21, 131, 231);
        CHECK.dueAll("the end itself", i -> x.blame(3721, i), -6);
        CHECK.dueAll("none", i -> x.blame(5, i), -6);
        for (long e : new long[] {0, -1, Long.MIN_VALUE, Long.MAX_VALUE}) {
            CHECK.due("blame(" + e + ", -1)", x.blame(e, -1), 0);
            CHECK.due("blame(" + e + ", 0)", x.blame(e, 0), -6);
        }
        x.times(12, 5);
        CHECK.dueAll("an end of 0", i -> x.blame(0, i), -6, 0);
        x.times(END - 1, END - 1);
        long great = (long) (END - 1) * (END - 1) - 1 - 58 * 60 + ((58 * 60 + 1) * 60 + 1);
        CHECK.dueAll("in the last line", i -> x.blame(great, i), -6, 1531);
    }
}
