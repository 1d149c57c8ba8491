/** Promises 17 to 26: tablet, press, cell, copy, reading, sure, fill, odd, triple, join. */
public final class TabletsTest {
    private static final Check CHECK = new Check();
    private static final int[] NO_TABLET = {-1, 4, Integer.MIN_VALUE, Integer.MAX_VALUE};

    public static void main(String[] args) {
        tablet();
        pressAndCell();
        copy();
        reading();
        sureAndFill();
        odd();
        triple();
        join();
        refusedJoins();
        CHECK.end();
    }

    /** A tablet that holds these numbers, row by row. */
    private static SixtyTablet holding(int... numbers) {
        SixtyTablet x = new SixtyTablet();
        lay(x, 0, numbers);
        return x;
    }

    private static void lay(SixtyTablet x, int t, int... numbers) {
        x.tablet(t, numbers.length / 3);
        for (int c = 0; c < numbers.length; c++) {
            x.press(t, c / 3, c % 3, numbers[c]);
        }
    }

    private static void dueCells(String call, SixtyTablet x, int t, int... numbers) {
        CHECK.due(call + " rows", x.told(2 + t), numbers.length / 3);
        for (int c = 0; c < numbers.length; c++) {
            CHECK.due(call + " cell " + c, x.cell(t, c / 3, c % 3), numbers[c]);
        }
    }

    private static void tablet() {
        SixtyTablet x = holding(1, 2, 3, 4, 5, 6);
        for (int wrong : new int[] {0, 9, -1, Integer.MIN_VALUE, Integer.MAX_VALUE}) {
            CHECK.due("tablet(0, " + wrong + ")", x.tablet(0, wrong), -2);
        }
        dueCells("refused", x, 0, 1, 2, 3, 4, 5, 6);
        CHECK.due("tablet(0, 3)", x.tablet(0, 3), 1);
        dueCells("anew", x, 0, 0, 0, 0, 0, 0, 0, 0, 0, 0);
        CHECK.due("tablet(3, 8)", x.tablet(3, 8), 1);
        CHECK.due("told(5)", x.told(5), 8);
        CHECK.due("told(9)", x.told(9), 24);
        for (int t : NO_TABLET) {
            CHECK.due("tablet(" + t + ", 1)", x.tablet(t, 1), -1);
            CHECK.due("tablet(" + t + ", 0)", x.tablet(t, 0), -1);
        }
    }

    private static void pressAndCell() {
        SixtyTablet x = new SixtyTablet();
        x.tablet(1, 8);
        CHECK.due("press", x.press(1, 7, 2, 12959999), 0);
        CHECK.due("press again", x.press(1, 7, 2, 60), 12959999);
        CHECK.due("cell", x.cell(1, 7, 2), 60);
        CHECK.due("press 12960000", x.press(1, 7, 2, 12960000), -2);
        CHECK.due("press -1", x.press(1, 7, 2, -1), -2);
        CHECK.due("cell still", x.cell(1, 7, 2), 60);
        CHECK.due("break", x.press(1, 7, 2, 0), 60);
        CHECK.due("broken", x.cell(1, 7, 2), 0);
        CHECK.due("told(7)", x.told(7), 24);
        int[][] unknown = {{-1, 0, 0}, {4, 0, 0}, {0, 1, 0}, {0, -1, 0}, {0, 0, 3}, {0, 0, -1}, {1, 8, 0},
            {1, Integer.MAX_VALUE, 0}, {1, 0, Integer.MIN_VALUE}, {1, 0, Integer.MAX_VALUE}, {1, Integer.MIN_VALUE, 2}};
        for (int[] at : unknown) {
            CHECK.due("press", x.press(at[0], at[1], at[2], 1), -1);
            CHECK.due("press outside", x.press(at[0], at[1], at[2], -1), -1);
            CHECK.due("cell", x.cell(at[0], at[1], at[2]), -1);
            CHECK.due("sure", x.sure(at[0], at[1], at[2]), -1);
        }
    }

    private static void copy() {
        SixtyTablet x = new SixtyTablet();
        CHECK.due("copy times", x.copy(0, 0, 30, 0, 3), 3);
        dueCells("times", x, 0, 30, 1, 30, 30, 2, 60, 30, 3, 90);
        CHECK.due("copy list", x.copy(0, 1, 0, 27, 2), 2);
        dueCells("list", x, 0, 80, 45, 1, 81, 160000, 1);
        CHECK.due("copy squares", x.copy(0, 2, 0, 57, 2), 2);
        dueCells("squares", x, 0, 58, 58, 3364, 59, 59, 3481);
        CHECK.due("copy cubes", x.copy(0, 3, 0, 38, 2), 2);
        dueCells("cubes", x, 0, 39, 1521, 59319, 40, 1600, 64000);
        int[][] outside = {{-1, 0, 0, 1}, {4, 0, 0, 1}, {0, 0, 0, 1}, {0, 60, 0, 1}, {1, 1, 0, 1}, {2, -1, 0, 1},
            {3, 5, 0, 1}, {0, 1, 0, 0}, {0, 1, 0, 9}, {0, 1, -5, 9}, {Integer.MIN_VALUE, 0, 0, 1},
            {0, Integer.MAX_VALUE, 0, 1}, {0, 1, 0, Integer.MIN_VALUE}, {0, 1, 0, Integer.MAX_VALUE}};
        for (int[] a : outside) {
            CHECK.due("copy outside", x.copy(0, a[0], a[1], a[2], a[3]), -2);
        }
        int[][] no = {{0, 1, 59, 1}, {0, 1, 52, 8}, {1, 0, 29, 1}, {1, 0, 22, 8}, {2, 0, 58, 2}, {3, 0, 40, 1},
            {3, 0, 33, 8}, {0, 1, Integer.MAX_VALUE, 8}, {0, 1, -1, 1}, {0, 1, Integer.MIN_VALUE, 8}};
        for (int[] a : no) {
            CHECK.due("copy no", x.copy(0, a[0], a[1], a[2], a[3]), -5);
        }
        dueCells("refused", x, 0, 39, 1521, 59319, 40, 1600, 64000);
        int[][] last = {{0, 59, 51}, {1, 0, 21}, {2, 0, 51}, {3, 0, 32}};
        for (int[] a : last) {
            CHECK.due("the last eight", x.copy(0, a[0], a[1], a[2], 8), 8);
        }
        for (int t : NO_TABLET) {
            CHECK.due("copy(" + t + ")", x.copy(t, 9, 0, 0, 1), -1);
        }
    }

    private static void reading() {
        SixtyTablet x = new SixtyTablet();
        CHECK.due("all of one row", x.reading(0, -1), 59 * 59 + 29 + 59 + 40);
        CHECK.due("the first", x.reading(0, 0), 100);
        CHECK.due("the second", x.reading(0, 1), 101);
        CHECK.due("times 2", x.reading(0, 59), 200);
        CHECK.due("the last of times", x.reading(0, 59 * 59 - 1), 5958);
        CHECK.due("the first of the list", x.reading(0, 59 * 59), 10000);
        CHECK.due("the first of squares", x.reading(0, 59 * 59 + 29), 20000);
        CHECK.due("the last", x.reading(0, 59 * 59 + 29 + 59 + 40 - 1), 30039);
        CHECK.due("beyond", x.reading(0, 59 * 59 + 29 + 59 + 40), -6);
        x.tablet(0, 8);
        CHECK.due("all of eight rows", x.reading(0, -1), 59 * 52 + 22 + 52 + 33);
        // 1 and 60 agree: rows of all kinds.
        SixtyTablet one = holding(60, 3600, 1);
        CHECK.dueAll("1 1 1", i -> one.reading(0, i), -6, 100, 20000, 30000);
        SixtyTablet sixty = holding(0, 2, 1);
        CHECK.dueAll("_ 2 1", i -> sixty.reading(0, i), -6, 3001, 10016);
        SixtyTablet eight = holding(0, 0, 8, 0, 0, 27);
        CHECK.dueAll("8, 27", i -> eight.reading(0, i), -6, 30001);
        SixtyTablet wrong = holding(2, 2, 5);
        CHECK.dueAll("2 2 5", i -> wrong.reading(0, i), -6);
        for (int t : NO_TABLET) {
            CHECK.due("reading(" + t + ")", x.reading(t, -1), -1);
        }
    }

    private static void sureAndFill() {
        SixtyTablet x = holding(0, 2, 1);
        // 30 times 2, or 30 of the list: the first column is sure.
        CHECK.due("sure(0, 0, 0)", x.sure(0, 0, 0), 30);
        CHECK.due("sure(0, 0, 1)", x.sure(0, 0, 1), 2);
        CHECK.due("fill", x.fill(0), 1);
        dueCells("filled", x, 0, 30, 2, 1);
        CHECK.due("fill again", x.fill(0), 0);
        // As a sixty: 30 times 2 is 1.
        lay(x, 1, 30, 1, 0, 30, 2, 0);
        CHECK.due("sure, as a sixty", x.sure(1, 1, 2), 1);
        CHECK.due("fill", x.fill(1), 2);
        dueCells("filled", x, 1, 30, 1, 30, 30, 2, 1);
        // Sure in some cells alone: 7 times something.
        lay(x, 2, 7, 0, 0, 7, 0, 0, 0, 0, 0);
        CHECK.due("sure of the head", x.sure(2, 2, 0), 7);
        CHECK.due("not sure", x.sure(2, 0, 1), 0);
        CHECK.due("fill", x.fill(2), 1);
        dueCells("filled", x, 2, 7, 0, 0, 7, 0, 0, 7, 0, 0);
        lay(x, 3, 2, 2, 5, 0, 0, 0);
        CHECK.due("no readings", x.sure(3, 0, 0), 0);
        CHECK.due("no readings", x.sure(3, 1, 1), 0);
        CHECK.due("no readings", x.fill(3), 0);
        lay(x, 3, 120, 2, 0);
        CHECK.due("held, as a sixty", x.sure(3, 0, 0), 2);
        CHECK.due("2 2 4 of any kind", x.sure(3, 0, 2), 4);
        CHECK.due("held stays", x.fill(3), 1);
        dueCells("held stays", x, 3, 120, 2, 4);
        x.tablet(3, 8);
        CHECK.due("nothing is sure", x.fill(3), 0);
        CHECK.due("nothing is sure", x.sure(3, 7, 2), 0);
        for (int t : NO_TABLET) {
            CHECK.due("sure(" + t + ")", x.sure(t, 0, 0), -1);
            CHECK.due("fill(" + t + ")", x.fill(t), -1);
        }
    }

    private static void odd() {
        CHECK.due("readings", holding(9, 5, 45, 9, 6, 54).odd(0), -6);
        CHECK.due("row 1", holding(9, 5, 45, 9, 6, 55, 9, 7, 63).odd(0), 1);
        CHECK.due("row 2", holding(9, 5, 45, 9, 6, 54, 9, 7, 62).odd(0), 2);
        CHECK.due("two rows", holding(9, 5, 45, 9, 6, 55, 9, 7, 64, 9, 8, 72).odd(0), -6);
        CHECK.due("one row", holding(2, 2, 5).odd(0), 0);
        // Either row may be the wrong one: times 9 comes ahead of times 10.
        CHECK.due("the first such", holding(10, 5, 50, 9, 6, 54).odd(0), 0);
        CHECK.due("the first such", holding(9, 5, 45, 10, 6, 60).odd(0), 1);
        CHECK.due("by the first row", holding(9, 5, 45, 9, 5, 45).odd(0), 0);
        CHECK.due("all broken", new SixtyTablet().odd(0), -6);
        for (int t : NO_TABLET) {
            CHECK.due("odd(" + t + ")", new SixtyTablet().odd(t), -1);
        }
    }

    private static void triple() {
        CHECK.dueAll("3 4 5", i -> holding(3, 4, 5).triple(0, 0, i), -6, 201);
        CHECK.dueAll("4 3 5", i -> holding(4, 3, 5).triple(0, 0, i), -6);
        CHECK.dueAll("_ _ 65", i -> holding(0, 0, 65).triple(0, 0, i), -6, 704, 801);
        CHECK.dueAll("_ _ 65 60", i -> holding(0, 0, 3900).triple(0, 0, i), -6, 704, 801);
        CHECK.dueAll("_ 60 agrees with 1", i -> holding(0, 1, 0).triple(0, 0, i), -6, 605);
        CHECK.dueAll("119 120 169", i -> holding(119, 2, 169).triple(0, 0, i), -6, 1205);
        SixtyTablet x = new SixtyTablet();
        CHECK.dueAll("all", i -> x.triple(0, 0, i), -6,
            201, 302, 401, 403, 502, 504, 601, 605, 702, 704, 706, 801, 803, 805, 807, 902, 904, 908,
            1001, 1003, 1007, 1009, 1102, 1104, 1106, 1108, 1110, 1201, 1205, 1207, 1211);
        for (int row : new int[] {-1, 1, Integer.MIN_VALUE, Integer.MAX_VALUE}) {
            CHECK.due("triple of row " + row, x.triple(0, row, -1), -1);
        }
        for (int t : NO_TABLET) {
            CHECK.due("triple(" + t + ")", x.triple(t, 0, -1), -1);
        }
    }

    private static void join() {
        SixtyTablet x = new SixtyTablet();
        lay(x, 0, 1, 0, 3, 4, 0, 0);
        lay(x, 1, 240, 5, 0, 0, 0, 9);
        CHECK.due("join(0, 1, 1)", x.join(0, 1, 1), 3);
        dueCells("joined", x, 0, 1, 0, 3, 4, 5, 0, 0, 0, 9);
        dueCells("the second stays", x, 1, 240, 5, 0, 0, 0, 9);
        lay(x, 2, 0, 2, 0);
        CHECK.due("within", x.join(0, 2, 0), 3);
        dueCells("within", x, 0, 1, 2, 3, 4, 5, 0, 0, 0, 9);
        CHECK.due("behind", x.join(0, 2, 3), 4);
        dueCells("behind", x, 0, 1, 2, 3, 4, 5, 0, 0, 0, 9, 0, 2, 0);
        lay(x, 2, 7, 7, 7, 7, 7, 7, 7, 7, 7, 7, 7, 7);
        CHECK.due("up to 8 rows", x.join(0, 2, 4), 8);
        // What lay there ahead of a smaller tablet does not come back.
        x.tablet(0, 1);
        x.tablet(2, 2);
        CHECK.due("anew", x.join(0, 2, 1), 3);
        dueCells("anew", x, 0, 0, 0, 0, 0, 0, 0, 0, 0, 0);
    }

    private static void refusedJoins() {
        SixtyTablet x = new SixtyTablet();
        lay(x, 0, 1, 2, 3, 4, 5, 6);
        lay(x, 1, 4, 5, 7);
        CHECK.due("no", x.join(0, 1, 1), -5);
        CHECK.due("no", x.join(0, 1, 0), -5);
        CHECK.due("state", x.join(0, 1, 3), -3);
        CHECK.due("state", x.join(0, 1, 7), -3);
        x.tablet(2, 8);
        CHECK.due("state ahead of full", x.join(0, 2, 3), -3);
        CHECK.due("full", x.join(0, 2, 2), -4);
        CHECK.due("full", x.join(0, 2, 1), -4);
        lay(x, 3, 9, 9, 9, 9, 9, 9, 0, 0, 0, 0, 0, 0, 0, 0, 0, 0, 0, 0, 0, 0, 0, 0, 0, 0);
        CHECK.due("full ahead of no", x.join(0, 3, 1), -4);
        CHECK.due("no, at 8 rows", x.join(0, 3, 0), -5);
        dueCells("refused", x, 0, 1, 2, 3, 4, 5, 6);
        for (int s : new int[] {-1, 8, Integer.MIN_VALUE, Integer.MAX_VALUE}) {
            CHECK.due("join(0, 1, " + s + ")", x.join(0, 1, s), -2);
            CHECK.due("join(0, 0, " + s + ")", x.join(0, 0, s), -1);
        }
        for (int t : NO_TABLET) {
            CHECK.due("join(" + t + ", 0, 0)", x.join(t, 0, 0), -1);
            CHECK.due("join(0, " + t + ", 0)", x.join(0, t, 0), -1);
            CHECK.due("join(" + t + ", 0, 9)", x.join(t, 0, 9), -1);
        }
        CHECK.due("eight rows and one behind", x.join(2, 1, 7), 8);
    }
}
