/** The edges that the document names for promises 17 to 20 and 26: tablet, press, cell, copy, join. */
public final class EdgesTabletsTest {
    private static final Check CHECK = new Check();
    private static final int UNKNOWN = -1, OUTSIDE = -2, STATE = -3, FULL = -4, NO = -5;
    private static final int GREATEST = 12959999;
    private static final int MIN = Integer.MIN_VALUE, MAX = Integer.MAX_VALUE;
    private static final int[] TABLE_ROWS = {59, 29, 59, 40};

    public static void main(String[] args) {
        tabletsZeroToThree();
        rowsOneToEight();
        allBrokenAtFirst();
        aNewTabletIsBroken();
        numbersOfACell();
        pressingTellsWhatItHeld();
        rowsOfAPress();
        columnsOfAPress();
        cellsOfOtherTabletsStay();
        copyKinds();
        copyTimesOfOneToFiftyNine();
        copyNoNInOtherKinds();
        copyRows();
        copyNotSoManyFromThereOn();
        copyFirstRowFarAway();
        copyFirstAndLastRows();
        copyMakesOtherRows();
        joinTabletsUnknown();
        joinAtZeroToSeven();
        joinBehindTheLastRow();
        joinEightRowsAtMost();
        joinAgreesInSixties();
        joinKeepsTheFirstOnesNumber();
        joinInEveryCell();
        joinLeavesTheSecond();
        joinNothingOfAnOlderTablet();
        CHECK.end();
    }

    /** "TABLETS 0 to 3": the calls that name one. */
    private static void tabletsZeroToThree() {
        SixtyTablet x = new SixtyTablet();
        CHECK.dueFor("tablet", t -> x.tablet(t, 1), 1, 0, 1, 2, 3);
        CHECK.dueFor("press", t -> x.press(t, 0, 0, 1), 0, 0, 1, 2, 3);
        CHECK.dueFor("cell", t -> x.cell(t, 0, 0), 1, 0, 1, 2, 3);
        CHECK.dueFor("sure", t -> x.sure(t, 0, 0), 1, 0, 1, 2, 3);
        CHECK.dueFor("odd", x::odd, -6, 0, 1, 2, 3);
        // 1 is 60 in 60 91 109.
        CHECK.dueFor("triple", t -> x.triple(t, 0, -1), 1, 0, 1, 2, 3);
        CHECK.dueFor("fill", x::fill, 0, 0, 1, 2, 3);
        CHECK.dueFor("copy", t -> x.copy(t, 0, 1, 0, 1), 1, 0, 1, 2, 3);
        CHECK.dueFor("reading", t -> x.reading(t, 0), 100, 0, 1, 2, 3);
        int[] none = {-1, 4, -2, 5, MIN, MAX};
        CHECK.dueFor("tablet", t -> x.tablet(t, 1), UNKNOWN, none);
        CHECK.dueFor("press", t -> x.press(t, 0, 0, 1), UNKNOWN, none);
        CHECK.dueFor("cell", t -> x.cell(t, 0, 0), UNKNOWN, none);
        CHECK.dueFor("copy", t -> x.copy(t, 0, 1, 0, 1), UNKNOWN, none);
        CHECK.dueFor("reading", t -> x.reading(t, -1), UNKNOWN, none);
        CHECK.dueFor("sure", t -> x.sure(t, 0, 0), UNKNOWN, none);
        CHECK.dueFor("fill", x::fill, UNKNOWN, none);
        CHECK.dueFor("odd", x::odd, UNKNOWN, none);
        CHECK.dueFor("triple", t -> x.triple(t, 0, -1), UNKNOWN, none);
    }

    /** "have 1 to 8 ROWS" */
    private static void rowsOneToEight() {
        SixtyTablet x = new SixtyTablet();
        for (int rows = 1; rows <= 8; rows++) {
            CHECK.due("tablet(0, " + rows + ")", x.tablet(0, rows), 1);
            CHECK.due("its rows", x.told(2), rows);
            CHECK.due("its broken cells", x.told(6), 3 * rows);
            CHECK.due("its last row", x.cell(0, rows - 1, 2), 0);
            CHECK.due("behind it", x.cell(0, rows, 0), UNKNOWN);
        }
        CHECK.dueFor("rows", rows -> x.tablet(0, rows), OUTSIDE, 0, 9, -1, 10, MIN, MAX);
        CHECK.due("rows stay", x.told(2), 8);
    }

    /** "or is BROKEN (all are, at first; 1 ROW)", promise 1: "TABLETS of one ROW, all BROKEN" */
    private static void allBrokenAtFirst() {
        SixtyTablet x = new SixtyTablet();
        for (int t = 0; t < 4; t++) {
            CHECK.due("rows of " + t, x.told(2 + t), 1);
            CHECK.due("broken cells of " + t, x.told(6 + t), 3);
            for (int column = 0; column < 3; column++) {
                CHECK.due("cell", x.cell(t, 0, column), 0);
                CHECK.due("behind it", x.cell(t, 1, column), UNKNOWN);
            }
        }
    }

    /** "A TABLET of so many ROWS, all BROKEN": of more, as many, and fewer ROWS than it had. */
    private static void aNewTabletIsBroken() {
        for (int rows = 1; rows <= 8; rows++) {
            SixtyTablet x = new SixtyTablet();
            x.copy(0, 2, 0, 0, 4);
            CHECK.due("tablet(0, " + rows + ")", x.tablet(0, rows), 1);
            CHECK.due("broken", x.told(6), 3 * rows);
            for (int row = 0; row < rows; row++) {
                CHECK.due("cell of row " + row, x.cell(0, row, row % 3), 0);
            }
            // What the old one held does not come back with more rows.
            x.tablet(0, 8);
            CHECK.due("broken, of eight rows", x.told(6), 24);
        }
    }

    /** "a CELL holds a number (1 to 12959999)", "(0: it is BROKEN)", "OUTSIDE" */
    private static void numbersOfACell() {
        SixtyTablet x = new SixtyTablet();
        CHECK.due("press 1", x.press(0, 0, 0, 1), 0);
        CHECK.due("cell", x.cell(0, 0, 0), 1);
        CHECK.due("press the greatest", x.press(0, 0, 0, GREATEST), 1);
        CHECK.due("cell", x.cell(0, 0, 0), GREATEST);
        CHECK.dueFor("press", v -> x.press(0, 0, 0, v), OUTSIDE, -1, GREATEST + 1, -60, MIN, MAX);
        CHECK.due("cell stays", x.cell(0, 0, 0), GREATEST);
        CHECK.due("broken stay", x.told(6), 2);
        CHECK.due("press 0", x.press(0, 0, 0, 0), GREATEST);
        CHECK.due("broken", x.told(6), 3);
    }

    /** "what it held (0)": of a BROKEN one 0, also if it breaks again; the number as it was pressed. */
    private static void pressingTellsWhatItHeld() {
        SixtyTablet x = new SixtyTablet();
        CHECK.due("break what is broken", x.press(0, 0, 0, 0), 0);
        CHECK.due("press", x.press(0, 0, 0, 3600), 0);
        CHECK.due("as it was pressed", x.press(0, 0, 0, 1), 3600);
        CHECK.due("as it was pressed", x.press(0, 0, 0, 0), 1);
        CHECK.due("broken again", x.press(0, 0, 0, 5), 0);
    }

    /** "UNKNOWN": a ROW on both sides, of tablets of 1 to 8 ROWS. */
    private static void rowsOfAPress() {
        for (int rows = 1; rows <= 8; rows++) {
            SixtyTablet x = new SixtyTablet();
            x.tablet(1, rows);
            int[] none = {rows, -1, rows + 1, 8, MIN, MAX};
            CHECK.due("the first", x.press(1, 0, 0, 1), 0);
            CHECK.due("the last", x.press(1, rows - 1, 2, 3), 0);
            CHECK.due("the first", x.cell(1, 0, 0), 1);
            CHECK.due("the last", x.cell(1, rows - 1, 2), 3);
            CHECK.dueFor("press", row -> x.press(1, row, 0, 1), UNKNOWN, none);
            CHECK.dueFor("cell", row -> x.cell(1, row, 0), UNKNOWN, none);
            CHECK.dueFor("sure", row -> x.sure(1, row, 0), UNKNOWN, none);
            CHECK.dueFor("triple", row -> x.triple(1, row, -1), UNKNOWN, none);
            CHECK.due("broken", x.told(7), 3 * rows - 2);
        }
    }

    /** "ROWS of COLUMNS 0 to 2": none beside them, which would be one of the ROW behind or ahead. */
    private static void columnsOfAPress() {
        SixtyTablet x = new SixtyTablet();
        x.tablet(2, 3);
        int[] none = {3, -1, 4, -3, MIN, MAX};
        for (int row = 0; row < 3; row++) {
            int so = row;
            CHECK.dueFor("press", column -> x.press(2, so, column, 7), UNKNOWN, none);
            CHECK.dueFor("cell", column -> x.cell(2, so, column), UNKNOWN, none);
            CHECK.dueFor("sure", column -> x.sure(2, so, column), UNKNOWN, none);
        }
        CHECK.due("all broken", x.told(8), 9);
        // Row numbers that come back among the cells where row times 3 goes round.
        CHECK.dueFor("press", row -> x.press(2, row, 0, 7), UNKNOWN, 1431655766, -1431655765, 715827883);
        CHECK.dueFor("cell", row -> x.cell(2, row, 1), UNKNOWN, 1431655766, -1431655765, 715827883);
        for (int c = 0; c < 9; c++) {
            CHECK.due("press " + c, x.press(2, c / 3, c % 3, c + 1), 0);
        }
        for (int c = 0; c < 9; c++) {
            CHECK.due("cell " + c, x.cell(2, c / 3, c % 3), c + 1);
        }
    }

    /** Each TABLET has CELLS of its own. */
    private static void cellsOfOtherTabletsStay() {
        SixtyTablet x = new SixtyTablet();
        for (int t = 0; t < 4; t++) {
            x.press(t, 0, 1, t + 1);
        }
        x.tablet(1, 8);
        x.press(3, 0, 1, 0);
        CHECK.due("tablet 0", x.cell(0, 0, 1), 1);
        CHECK.due("tablet 1", x.cell(1, 0, 1), 0);
        CHECK.due("tablet 2", x.cell(2, 0, 1), 3);
        CHECK.due("tablet 3", x.cell(3, 0, 1), 0);
    }

    /** "KINDS of tables: 0 .. 3", "OUTSIDE: KIND" */
    private static void copyKinds() {
        SixtyTablet x = new SixtyTablet();
        CHECK.due("kind 0", x.copy(0, 0, 1, 0, 1), 1);
        CHECK.due("kind 1", x.copy(0, 1, 0, 0, 1), 1);
        CHECK.due("kind 2", x.copy(0, 2, 0, 0, 1), 1);
        CHECK.due("kind 3", x.copy(0, 3, 0, 0, 1), 1);
        CHECK.dueFor("kind", kind -> x.copy(0, kind, 0, 0, 1), OUTSIDE, -1, 4, -2, 5, MIN, MAX);
        CHECK.dueFor("kind, n = 1", kind -> x.copy(0, kind, 1, 0, 1), OUTSIDE, -1, 4, -2, 5, MIN, MAX);
    }

    /** "0 TIMES n (1 to 59)", "OUTSIDE: .. n" */
    private static void copyTimesOfOneToFiftyNine() {
        SixtyTablet x = new SixtyTablet();
        CHECK.due("n = 1", x.copy(0, 0, 1, 58, 1), 1);
        CHECK.due("1 59 59", x.cell(0, 0, 0) + x.cell(0, 0, 1) + x.cell(0, 0, 2), 1 + 59 + 59);
        CHECK.due("n = 59", x.copy(0, 0, 59, 58, 1), 1);
        CHECK.due("59 59 3481", x.cell(0, 0, 0) + x.cell(0, 0, 1) + x.cell(0, 0, 2), 59 + 59 + 3481);
        CHECK.dueFor("n", n -> x.copy(0, 0, n, 0, 1), OUTSIDE, 0, 60, -1, 61, MIN, MAX);
        CHECK.due("it stays", x.cell(0, 0, 2), 3481);
    }

    /** "n (0 in KINDS 1 to 3)" */
    private static void copyNoNInOtherKinds() {
        SixtyTablet x = new SixtyTablet();
        for (int kind = 1; kind <= 3; kind++) {
            int so = kind;
            CHECK.due("kind " + kind + ", n = 0", x.copy(0, kind, 0, 0, 1), 1);
            CHECK.dueFor("kind " + kind + ", n", n -> x.copy(0, so, n, 0, 1), OUTSIDE, 1, -1, 59, 60, MIN, MAX);
        }
    }

    /** "ROWS 1 to 8" */
    private static void copyRows() {
        SixtyTablet x = new SixtyTablet();
        for (int kind = 0; kind <= 3; kind++) {
            int n = kind == 0 ? 7 : 0;
            int so = kind;
            CHECK.due("1 row", x.copy(0, kind, n, 0, 1), 1);
            CHECK.due("told", x.told(2), 1);
            CHECK.due("8 rows", x.copy(0, kind, n, 0, 8), 8);
            CHECK.due("told", x.told(2), 8);
            CHECK.due("no broken ones", x.told(6), 0);
            CHECK.dueFor("rows", rows -> x.copy(0, so, n, 0, rows), OUTSIDE, 0, 9, -1, 29, 59, MIN, MAX);
            CHECK.due("they stay", x.told(2), 8);
        }
    }

    /** "NO: the table has not so many from there on": the last first ROW for each number of ROWS, and the next. */
    private static void copyNotSoManyFromThereOn() {
        for (int kind = 0; kind <= 3; kind++) {
            int n = kind == 0 ? 59 : 0;
            for (int rows = 1; rows <= 8; rows++) {
                SixtyTablet x = new SixtyTablet();
                int last = TABLE_ROWS[kind] - rows;
                String of = "kind " + kind + ", " + rows + " rows";
                CHECK.due(of + ", the first", x.copy(0, kind, n, 0, rows), rows);
                CHECK.due(of + ", the last", x.copy(0, kind, n, last, rows), rows);
                String held = Shown.of(x);
                CHECK.due(of + ", one too far", x.copy(0, kind, n, last + 1, rows), NO);
                CHECK.due(of + ", behind the table", x.copy(0, kind, n, TABLE_ROWS[kind], rows), NO);
                CHECK.due(of + ", ahead of the table", x.copy(0, kind, n, -1, rows), NO);
                CHECK.due(of + " stays", Shown.of(x).equals(held) ? 1 : 0, 1);
            }
        }
    }

    /** NO also where the first ROW and the ROWS together would go round. */
    private static void copyFirstRowFarAway() {
        SixtyTablet x = new SixtyTablet();
        for (int rows = 1; rows <= 8; rows++) {
            int so = rows;
            int[] far = {MAX, MAX - rows + 1, MAX - rows, MIN, MIN + 8, -8};
            CHECK.dueFor("times", first -> x.copy(0, 0, 1, first, so), NO, far);
            CHECK.dueFor("cubes", first -> x.copy(0, 3, 0, first, so), NO, far);
        }
    }

    /** "ROWS n, k, n k, k 1 to 59", "n of THE LIST ..", "k 1 to 59", "k 1 to 40": the first and last ROW of each. */
    private static void copyFirstAndLastRows() {
        dueRow(0, 7, 0, 7, 1, 7);
        dueRow(0, 7, 58, 7, 59, 413);
        dueRow(0, 30, 1, 30, 2, 60);
        dueRow(1, 0, 0, 2, 30, 1);
        dueRow(1, 0, 23, 54, 4000, 1);
        dueRow(1, 0, 24, 64, 3375, 1);
        dueRow(1, 0, 28, 81, 160000, 1);
        dueRow(2, 0, 0, 1, 1, 1);
        dueRow(2, 0, 58, 59, 59, 3481);
        dueRow(3, 0, 0, 1, 1, 1);
        dueRow(3, 0, 39, 40, 1600, 64000);
    }

    private static void dueRow(int kind, int n, int row, int... want) {
        SixtyTablet x = new SixtyTablet();
        x.copy(0, kind, n, row, 1);
        for (int column = 0; column < 3; column++) {
            CHECK.due("kind " + kind + ", row " + row + ", column " + column, x.cell(0, 0, column), want[column]);
        }
    }

    /** "A TABLET becomes so many ROWS": of more ROWS than it had, and of fewer. */
    private static void copyMakesOtherRows() {
        SixtyTablet x = new SixtyTablet();
        CHECK.due("from 1 to 8", x.copy(0, 2, 0, 0, 8), 8);
        CHECK.due("the last", x.cell(0, 7, 2), 64);
        CHECK.due("from 8 to 1", x.copy(0, 2, 0, 1, 1), 1);
        CHECK.due("the only one", x.cell(0, 0, 2), 4);
        CHECK.due("behind it", x.cell(0, 1, 0), UNKNOWN);
        CHECK.due("told", x.told(2), 1);
    }

    /** "UNKNOWN: also they are one" */
    private static void joinTabletsUnknown() {
        SixtyTablet x = new SixtyTablet();
        CHECK.due("the first and the last", x.join(0, 3, 0), 1);
        CHECK.due("the last and the first", x.join(3, 0, 0), 1);
        CHECK.dueFor("one", t -> x.join(t, t, 0), UNKNOWN, 0, 1, 2, 3, -1, 4, MIN, MAX);
        CHECK.dueFor("first", t -> x.join(t, 0, 0), UNKNOWN, -1, 4, MIN, MAX);
        CHECK.dueFor("second", u -> x.join(0, u, 0), UNKNOWN, -1, 4, MIN, MAX);
    }

    /** "s the ROW of the first one .. (0 to 7)", "OUTSIDE: s" */
    private static void joinAtZeroToSeven() {
        SixtyTablet x = new SixtyTablet();
        x.tablet(0, 8);
        CHECK.dueFor("s", s -> x.join(0, 1, s), 8, 0, 1, 6, 7);
        CHECK.dueFor("s", s -> x.join(0, 1, s), OUTSIDE, -1, 8, -2, 9, MIN, MAX, MAX - 1);
        x.tablet(0, 7);
        CHECK.due("just behind the last of seven", x.join(0, 1, 7), 8);
    }

    /** "STATE: s is beyond the ROW behind the first one's last one" */
    private static void joinBehindTheLastRow() {
        for (int rows = 1; rows <= 7; rows++) {
            SixtyTablet x = new SixtyTablet();
            x.tablet(0, rows);
            x.press(1, 0, 1, 5);
            String held = Shown.of(x);
            for (int s = rows + 1; s <= 7; s++) {
                CHECK.due(rows + " rows, at " + s, x.join(0, 1, s), STATE);
            }
            CHECK.due(rows + " rows stay", Shown.of(x).equals(held) ? 1 : 0, 1);
            CHECK.due(rows + " rows, just behind", x.join(0, 1, rows), rows + 1);
            CHECK.due("it lies there", x.cell(0, rows, 1), 5);
            CHECK.due("the last one is broken", x.cell(0, rows - 1, 1), 0);
        }
    }

    /** "ROWS up to the last one of either, 8 at most", "FULL: more than 8 ROWS": all that lie within both bounds. */
    private static void joinEightRowsAtMost() {
        for (int rows = 1; rows <= 8; rows++) {
            for (int second = 1; second <= 8; second++) {
                for (int s = 0; s <= Math.min(rows, 7); s++) {
                    SixtyTablet x = new SixtyTablet();
                    x.tablet(0, rows);
                    x.tablet(1, second);
                    x.press(1, second - 1, 2, 9);
                    int want = s + second > 8 ? FULL : Math.max(rows, s + second);
                    String of = rows + " rows and " + second + " at " + s;
                    CHECK.due(of, x.join(0, 1, s), want);
                    CHECK.due(of + ", told", x.told(2), want == FULL ? rows : want);
                    CHECK.due(of + ", broken", x.told(6), want == FULL ? 3 * rows : 3 * want - 1);
                }
            }
        }
    }

    /** "CELLS that both hold have to agree", "Two numbers agree, if their SIXTIES are the same" */
    private static void joinAgreesInSixties() {
        int[][] pairs = {{1, 1, 1}, {1, 60, 1}, {60, 3600, 1}, {216000, 1, 1}, {61, 3660, 1}, {GREATEST, GREATEST, 1},
            {1, 61, NO}, {1, 2, NO}, {59, 60, NO}, {3601, 61, NO}, {GREATEST, GREATEST - 1, NO}};
        for (int[] pair : pairs) {
            SixtyTablet x = new SixtyTablet();
            x.press(0, 0, 0, pair[0]);
            x.press(1, 0, 0, pair[1]);
            CHECK.due(pair[0] + " and " + pair[1], x.join(0, 1, 0), pair[2]);
            CHECK.due(pair[0] + " stays", x.cell(0, 0, 0), pair[0]);
        }
    }

    /** "the joined one holds what either does (the first one's number, if both do)" */
    private static void joinKeepsTheFirstOnesNumber() {
        SixtyTablet x = new SixtyTablet();
        x.press(0, 0, 0, 3600);
        x.press(0, 0, 1, 2);
        x.press(1, 0, 0, 60);
        x.press(1, 0, 2, 180);
        CHECK.due("join", x.join(0, 1, 0), 1);
        CHECK.due("both", x.cell(0, 0, 0), 3600);
        CHECK.due("the first alone", x.cell(0, 0, 1), 2);
        CHECK.due("the second alone, as it was pressed", x.cell(0, 0, 2), 180);
    }

    /** "NO: two CELLS do not agree": in any one CELL of the ROWS that lie on one another, and then nothing is taken. */
    private static void joinInEveryCell() {
        for (int c = 0; c < 9; c++) {
            SixtyTablet x = new SixtyTablet();
            x.copy(0, 2, 0, 1, 4);
            x.copy(1, 2, 0, 2, 4);
            x.press(1, c / 3, c % 3, 7 * 11);
            CHECK.due("cell " + c, x.join(0, 1, 1), NO);
            CHECK.due("rows stay", x.told(2), 4);
            x.press(1, c / 3, c % 3, 0);
            CHECK.due("cell " + c + " broken", x.join(0, 1, 1), 5);
        }
        // A cell of the row that lies behind cannot disagree.
        SixtyTablet x = new SixtyTablet();
        x.copy(0, 2, 0, 1, 4);
        x.copy(1, 2, 0, 2, 4);
        x.press(1, 3, 1, 77);
        CHECK.due("the row behind", x.join(0, 1, 1), 5);
        CHECK.due("it holds that", x.cell(0, 4, 1), 77);
    }

    /** "it is the first one then": the second one stays as it is. */
    private static void joinLeavesTheSecond() {
        SixtyTablet x = new SixtyTablet();
        x.press(0, 0, 0, 4);
        x.copy(1, 2, 0, 2, 2);
        CHECK.due("join", x.join(0, 1, 1), 3);
        CHECK.due("rows of the second", x.told(3), 2);
        CHECK.due("its first cell", x.cell(1, 0, 0), 3);
        x.press(0, 1, 0, 50);
        CHECK.due("still", x.cell(1, 0, 0), 3);
        x.press(1, 1, 0, 51);
        CHECK.due("and the joined one", x.cell(0, 2, 0), 4);
    }

    /** ROWS that a JOIN adds hold the second one's CELLS alone, whatever the first one held when it was longer. */
    private static void joinNothingOfAnOlderTablet() {
        SixtyTablet x = new SixtyTablet();
        x.copy(0, 2, 0, 0, 8);
        x.tablet(0, 1);
        x.tablet(1, 7);
        CHECK.due("join", x.join(0, 1, 1), 8);
        CHECK.due("all broken", x.told(6), 24);
        x.copy(0, 2, 0, 0, 8);
        x.copy(0, 2, 0, 0, 1);
        CHECK.due("join behind a copy", x.join(0, 1, 1), 8);
        CHECK.due("all but the copied row broken", x.told(6), 21);
        // What an older one held can't disagree, in neither of the two.
        x.copy(0, 2, 0, 0, 8);
        x.tablet(0, 8);
        x.copy(2, 3, 0, 20, 8);
        CHECK.due("onto a new one", x.join(0, 2, 0), 8);
        CHECK.due("it holds the second one's", x.cell(0, 7, 2), 28 * 28 * 28);
        x.tablet(2, 8);
        x.copy(0, 2, 0, 0, 8);
        CHECK.due("of a new one", x.join(0, 2, 0), 8);
        CHECK.due("it holds the first one's", x.cell(0, 7, 2), 64);
    }
}
