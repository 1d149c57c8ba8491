import java.util.ArrayList;
import java.util.List;

/**
 * The sentences that say what the calls of promises 12 to 16 answer in the ordinary case, each held by its own words over
 * many workings: all products of two digits, and numbers with gaps in all places.
 */
public final class SentencesWorkingsTest {
    private static final Check CHECK = new Check();
    private static final long LOST = -1000000000000000000L;
    /** One to four digits, empty places between and behind. */
    private static final long[] SOME = {
        1, 2, 30, 59, 60, 61, 1830, 3540, 3599, 3600, 3601, 7325, 107999, 108060, 215999, 216000, 216001, 216060, 219600,
        219661, 446582, 6480030, 12744000, 12747600, 12959940, 12959999
    };

    public static void main(String[] args) {
        for (long x : SOME) {
            for (long y : SOME) {
                aLineForEachTwoDigits(x, y);
                eachSumIsTheOneAheadAndTheLine(x, y);
                lookedUpAndPutTogether(x, y);
                sumsOfSlips(x, y);
                blamesAreTheSlipsThatEndSo(x, y);
            }
        }
        for (int x = 1; x < 60; x++) {
            for (int y = 1; y < 60; y++) {
                slipsOfAProduct(x, y, 0);
                slipsOfAProduct(x, y, 1);
            }
        }
        CHECK.end();
    }

    private static SixtyTablet working(long x, long y) {
        SixtyTablet made = new SixtyTablet();
        made.times(x, y);
        return made;
    }

    private static List<int[]> digits(long v) {
        List<int[]> found = new ArrayList<>();
        int behind = 0;
        for (long left = v; left > 0; left /= 60) {
            if (left % 60 != 0) {
                found.add(0, new int[] {(int) (left % 60), behind});
            }
            behind++;
        }
        return found;
    }

    /**
     * "for each DIGIT of x that is not 0, from the first on, and each DIGIT of y that is not 0, from the first on, a LINE:
     * their product, at a PLACE: how many DIGITS are behind them, of both together", "A WORKING: how many LINES.",
     * "Of LINE i: 0 the product, 1 its PLACE, 2 the DIGIT of x, 3 that of y."
     */
    private static void aLineForEachTwoDigits(long x, long y) {
        SixtyTablet made = new SixtyTablet();
        String call = x + " times " + y + ", line ";
        int lines = made.times(x, y);
        int i = 0;
        for (int[] ofX : digits(x)) {
            for (int[] ofY : digits(y)) {
                CHECK.due(call + i + " 0", made.line(i, 0), ofX[0] * ofY[0]);
                CHECK.due(call + i + " 1", made.line(i, 1), ofX[1] + ofY[1]);
                CHECK.due(call + i + " 2", made.line(i, 2), ofX[0]);
                CHECK.due(call + i + " 3", made.line(i, 3), ofY[0]);
                i++;
            }
        }
        CHECK.due(call + "how many", lines, i);
        CHECK.due(call + "told", made.told(0), i);
        CHECK.due(call + i, made.line(i, 0), -1);
    }

    private static long worth(SixtyTablet made, int i) {
        long worth = made.line(i, 0);
        for (int place = made.line(i, 1); place > 0; place--) {
            worth *= 60;
        }
        return worth;
    }

    /**
     * "Then SUMS: SUM 0 is LINE 0, each other one the SUM ahead and the LINE (each LINE times 60 to its PLACE). The last SUM
     * is THE END."
     */
    private static void eachSumIsTheOneAheadAndTheLine(long x, long y) {
        SixtyTablet made = working(x, y);
        long ahead = 0;
        for (int i = 0; i < made.told(0); i++) {
            ahead += worth(made, i);
            CHECK.due(x + " times " + y + ", SUM " + i, made.sum(i), ahead);
        }
        CHECK.due(x + " times " + y + ", THE END", made.sum(made.told(0) - 1), x * y);
    }

    /** "times by looking up tables and putting together": each LINE stands in a table; PUT TOGETHER they are the SUMS. */
    private static void lookedUpAndPutTogether(long x, long y) {
        SixtyTablet made = working(x, y);
        for (int i = 0; i < made.told(0); i++) {
            made.copy(0, 0, made.line(i, 2), made.line(i, 3) - 1, 1);
            CHECK.due("the table of " + made.line(i, 2), made.cell(0, 0, 2), made.line(i, 0));
            if (i > 0) {
                long put = made.put(made.sum(i - 1), made.line(i, 0), made.line(i, 1));
                CHECK.due("put together up to LINE " + i, put, made.sixty(made.sum(i)));
            }
        }
    }

    /** What a LINE of a product 60 a and b is worth with a slip, by the table of slips; LOST if there is none. */
    private static long slipped(int ofX, int ofY, int place, int kind, int which) {
        int a = ofX * ofY / 60;
        int b = ofX * ofY % 60;
        long at = 1;
        for (int i = 0; i < place; i++) {
            at *= 60;
        }
        switch (10 * kind + which) {
            case 0: return a != 0 ? b * at : LOST;
            case 1: return a != 0 && b != 0 ? a * at : LOST;
            case 10: return place != 0 ? (60L * a + b) * (at / 60) : LOST;
            case 20: return ofY - 1 >= 1 ? ofX * (ofY - 1) * at : LOST;
            case 21: return ofY + 1 <= 59 ? ofX * (ofY + 1) * at : LOST;
            case 30: return a != 0 ? (3600L * a + 60 * a + b) * at : LOST;
            case 31: return b != 0 ? (3600L * a + 60 * b + b) * at : LOST;
            default: return LOST;
        }
    }

    /**
     * "SLIPS in LINE i, its product being 60 a and b (a, b 0 to 59): KIND 0 left out: which 0: b alone is written (a not 0),
     * 1: a alone, as b (a, b not 0); 1 a PLACE lost: which 0: it is written one PLACE lower (not at PLACE 0); 2 the ROW
     * beside: the product with the DIGIT of y one less (which 0, if that is 1 or more), one more (1, if it is 59 or less); 3
     * written twice: which 0: a, a, b (a not 0), 1: a, b, b (b not 0)."
     */
    private static void slipsOfAProduct(int x, int y, int place) {
        SixtyTablet made = working(place == 0 ? x : 60L * x, y);
        for (int kind = 0; kind < 4; kind++) {
            for (int which = 0; which < 2; which++) {
                long written = slipped(x, y, place, kind, which);
                CHECK.due(x + " times " + y + " at " + place + ", slip " + kind + " " + which,
                    made.slip(0, kind, which, 0), written == LOST ? LOST - 5 : written);
            }
        }
    }

    /** "SUM j with a slip in LINE i.", "All SUMS from LINE i on are other then." */
    private static void sumsOfSlips(long x, long y) {
        SixtyTablet asked = working(x, y);
        int lines = asked.told(0);
        for (int i = 0; i < lines; i++) {
            SixtyTablet made = working(x, y);
            long worth = worth(made, i);
            for (int slip = 0; slip < 8; slip++) {
                long written = slipped(made.line(i, 2), made.line(i, 3), made.line(i, 1), slip / 2, slip % 2);
                for (int j = 0; j < lines; j++) {
                    long without = made.sum(j);
                    long due = written == LOST ? LOST - 5 : j < i ? without : without - worth + written;
                    CHECK.due(x + " times " + y + ", slip " + i + " " + slip + " " + j,
                        made.slip(i, slip / 2, slip % 2, j), due);
                    CHECK.due("it is other from LINE i on", written == LOST || j < i == (due == without) ? 1 : 0, 1);
                }
            }
        }
    }

    /**
     * "BLAMES of a number e: the slips with which THE END is e, unlike THE END without: in order of LINES, KINDS, which.",
     * "the n-th: 100 times the LINE, 10 times the KIND, and which"
     */
    private static void blamesAreTheSlipsThatEndSo(long x, long y) {
        List<Integer> codes = new ArrayList<>();
        List<Long> ends = new ArrayList<>();
        SixtyTablet made = working(x, y);
        int lines = made.told(0);
        for (int i = 0; i < lines; i++) {
            for (int slip = 0; slip < 8; slip++) {
                long end = made.slip(i, slip / 2, slip % 2, lines - 1);
                if (end >= 0) {
                    codes.add(100 * i + 10 * (slip / 2) + slip % 2);
                    ends.add(end);
                }
            }
        }
        for (int s = 0; s < codes.size(); s += 3) {
            SixtyTablet asked = working(x, y);
            int n = 0;
            for (int other = 0; other < codes.size(); other++) {
                if (ends.get(other).equals(ends.get(s))) {
                    CHECK.due("blame " + ends.get(s) + " of " + x + " times " + y, asked.blame(ends.get(s), n), codes.get(other));
                    n++;
                }
            }
            CHECK.due("how many blames " + ends.get(s), asked.blame(ends.get(s), -1), n);
            CHECK.due("behind the last one", asked.blame(ends.get(s), n), -6);
        }
        CHECK.due("THE END without", made.blame(x * y, -1), 0);
    }
}
