/** The edges that the document names for promises 21 to 25: reading, sure, fill, odd, triple. */
public final class EdgesReadingsTest {
    private static final Check CHECK = new Check();
    private static final int UNKNOWN = -1, NONE = -6;
    private static final int MIN = Integer.MIN_VALUE, MAX = Integer.MAX_VALUE;
    private static final int[] TABLE_ROWS = {59, 29, 59, 40};

    public static void main(String[] args) {
        readingsOfBrokenTablets();
        readingsAtTheFirstAndLastRow();
        readingsOneBehindTheOther();
        readingsAgreeInSixties();
        readingsInOrder();
        readingBehindTheLast();
        sureWithoutReadings();
        sureOfEachTabletByItself();
        sureInOneReading();
        sureInReadingsOfTwoKinds();
        notSureIfOneDiffers();
        sureAsASixty();
        fillNothing();
        fillWhatIsSure();
        fillAllCells();
        fillKeepsWhatIsHeld();
        oddWithReadings();
        oddInEveryRow();
        oddWithTwoWrongRows();
        oddOfOneRow();
        oddOfTheFirstSuch();
        oddAtTheEndsOfTables();
        triplesFromTwoToTwelve();
        triplesNotBothOddOrParted();
        triplesTheLesserFirst();
        triplesAgreeInSixties();
        tripleBehindTheLast();
        tripleOfARow();
        CHECK.end();
    }

    /** Tablet 0 holds these numbers, row by row. */
    private static SixtyTablet holding(int... numbers) {
        SixtyTablet x = new SixtyTablet();
        x.tablet(0, numbers.length / 3);
        for (int c = 0; c < numbers.length; c++) {
            x.press(0, c / 3, c % 3, numbers[c]);
        }
        return x;
    }

    private static int readingsOfBroken(int rows) {
        return 59 * (60 - rows) + 30 - rows + 60 - rows + 41 - rows;
    }

    /** "a first ROW of the table (from 0 on), such that the TABLET's ROWS are as many of the table's": all of them. */
    private static void readingsOfBrokenTablets() {
        for (int rows = 1; rows <= 8; rows++) {
            SixtyTablet x = new SixtyTablet();
            x.tablet(0, rows);
            int times = 59 * (60 - rows);
            int list = times + 30 - rows;
            int squares = list + 60 - rows;
            CHECK.due(rows + " rows", x.reading(0, -1), readingsOfBroken(rows));
            CHECK.due("times 1, first row 0", x.reading(0, 0), 100);
            CHECK.due("times 1, the last", x.reading(0, 59 - rows), 159 - rows);
            CHECK.due("times 2, first row 0", x.reading(0, 60 - rows), 200);
            CHECK.due("times 59, the last", x.reading(0, times - 1), 5959 - rows);
            CHECK.due("list, the first", x.reading(0, times), 10000);
            CHECK.due("list, the last", x.reading(0, list - 1), 10029 - rows);
            CHECK.due("squares, the first", x.reading(0, list), 20000);
            CHECK.due("squares, the last", x.reading(0, squares - 1), 20059 - rows);
            CHECK.due("cubes, the first", x.reading(0, squares), 30000);
            CHECK.due("cubes, the last", x.reading(0, readingsOfBroken(rows) - 1), 30040 - rows);
            CHECK.due("behind the last", x.reading(0, readingsOfBroken(rows)), NONE);
        }
    }

    /** A copy of the first and of the last ROWS of each table is read there. */
    private static void readingsAtTheFirstAndLastRow() {
        for (int kind = 0; kind <= 3; kind++) {
            int n = kind == 0 ? 59 : 0;
            for (int rows = 2; rows <= 8; rows++) {
                for (int first : new int[] {0, TABLE_ROWS[kind] - rows}) {
                    SixtyTablet x = new SixtyTablet();
                    x.copy(0, kind, n, first, rows);
                    CHECK.dueAll("kind " + kind + ", " + rows + " rows", i -> x.reading(0, i), NONE,
                        10000 * kind + 100 * n + first);
                }
            }
        }
    }

    /** "one behind the other": nothing lies ahead of a table's first ROW or behind its last one. */
    private static void readingsOneBehindTheOther() {
        CHECK.due("cubes, ahead", holding(0, 0, 0, 1, 1, 1, 2, 4, 8).reading(0, -1), 0);
        CHECK.due("cubes, first", holding(1, 1, 1, 2, 4, 8).reading(0, 0), 30000);
        CHECK.due("cubes, behind", holding(39, 1521, 59319, 40, 1600, 64000, 0, 0, 0).reading(0, -1), 0);
        CHECK.due("cubes, last", holding(39, 1521, 59319, 40, 1600, 64000).reading(0, 0), 30038);
        CHECK.due("the list, behind", holding(80, 45, 1, 81, 160000, 1, 0, 0, 0).reading(0, -1), 0);
        CHECK.due("the list, ahead", holding(0, 0, 0, 2, 30, 1, 3, 20, 1).reading(0, -1), 0);
        CHECK.due("squares, behind", holding(58, 58, 0, 59, 59, 0, 0, 0, 0).reading(0, -1), 0);
        CHECK.due("times, behind", holding(7, 59, 413, 0, 0, 0).reading(0, -1), 0);
        CHECK.due("times 1, ahead", holding(1, 0, 0, 1, 1, 1).reading(0, -1), 0);
        CHECK.due("times, ahead", holding(0, 0, 0, 7, 1, 7, 7, 2, 14).reading(0, -1), 0);
        CHECK.due("a row left out", holding(7, 5, 35, 7, 7, 49).reading(0, -1), 0);
        CHECK.due("not from the last to the first", holding(7, 6, 42, 7, 5, 35).reading(0, -1), 0);
        CHECK.due("60 is not in the list", holding(54, 4000, 1, 60, 1, 1).reading(0, -1), 0);
        CHECK.due("64 is behind 54", holding(54, 4000, 1, 64, 3375, 1).reading(0, 0), 10023);
    }

    /** "agree in all CELLS that are not BROKEN": as SIXTIES; one CELL that does not is enough. */
    private static void readingsAgreeInSixties() {
        CHECK.due("30 times 2 is 60", holding(30, 2, 60, 30, 3, 90).reading(0, 0), 3001);
        CHECK.due("30 times 2 is 1", holding(30, 2, 1, 30, 3, 90).reading(0, 0), 3001);
        CHECK.due("1800 times 120 is 3600", holding(1800, 120, 3600, 30, 3, 5400).reading(0, 0), 3001);
        for (int c = 0; c < 6; c++) {
            SixtyTablet x = holding(30, 2, 60, 30, 3, 90);
            x.press(0, c / 3, c % 3, 77);
            CHECK.due("cell " + c + " wrong", x.reading(0, -1), 0);
            x.press(0, c / 3, c % 3, 0);
            CHECK.due("cell " + c + " broken", x.reading(0, 0), 3001);
        }
        CHECK.due("the greatest number", holding(12959999, 0, 0).reading(0, -1), 0);
    }

    /** "In order by KIND, n, first ROW": a ROW that all kinds have, and one by n and first ROW. */
    private static void readingsInOrder() {
        SixtyTablet one = holding(1, 1, 1);
        CHECK.dueAll("1 1 1", i -> one.reading(0, i), NONE, 100, 20000, 30000);
        SixtyTablet twelve = holding(0, 0, 12);
        // 12 is n k; 60 to the powers times it, too: 720 is 15 48, 16 45, 18 40, 20 36, 24 30, 30 24, ..
        CHECK.dueAll("_ _ 12", i -> twelve.reading(0, i), NONE,
            111, 205, 303, 402, 601, 1200, 1547, 1644, 1839, 2035, 2429, 3023, 3619, 4017, 4515, 4814);
        SixtyTablet thirty = holding(30, 2, 1);
        CHECK.dueAll("30 2 1", i -> thirty.reading(0, i), NONE, 3001, 10016);
    }

    /** "how many (i = -1); the i-th ..; NONE": on both sides. */
    private static void readingBehindTheLast() {
        SixtyTablet x = holding(30, 2, 1);
        CHECK.dueFor("two", i -> x.reading(0, i), NONE, 2, 3, -2, MIN, MAX);
        SixtyTablet none = holding(2, 2, 5);
        CHECK.due("none at all", none.reading(0, -1), 0);
        CHECK.dueFor("none at all", i -> none.reading(0, i), NONE, 0, 1, -2, MIN, MAX);
        SixtyTablet all = new SixtyTablet();
        CHECK.dueFor("all", i -> all.reading(0, i), NONE, readingsOfBroken(1), 4000, 5000, -2, MIN, MAX);
    }

    /** "A CELL is SURE, if there are READINGS": without one nothing is, what a CELL holds neither. */
    private static void sureWithoutReadings() {
        SixtyTablet x = holding(2, 2, 5, 0, 0, 0);
        for (int c = 0; c < 6; c++) {
            CHECK.due("cell " + c, x.sure(0, c / 3, c % 3), 0);
        }
    }

    /** What was SURE in one TABLET is not so in another one that has no READINGS, nor in the same one later. */
    private static void sureOfEachTabletByItself() {
        SixtyTablet x = holding(7, 5, 35, 0, 0, 0);
        CHECK.due("sure in tablet 0", x.sure(0, 1, 2), 42);
        x.tablet(1, 2);
        x.press(1, 0, 0, 77);
        for (int c = 0; c < 6; c++) {
            CHECK.due("cell " + c + " of tablet 0", x.sure(0, c / 3, c % 3) > 0 ? 1 : 0, 1);
            CHECK.due("cell " + c + " of tablet 1", x.sure(1, c / 3, c % 3), 0);
        }
        CHECK.due("fill of tablet 1", x.fill(1), 0);
        x.press(0, 0, 2, 36);
        for (int c = 0; c < 6; c++) {
            CHECK.due("cell " + c + " of tablet 0 then", x.sure(0, c / 3, c % 3), 0);
        }
        CHECK.due("fill of tablet 0 then", x.fill(0), 0);
    }

    /** One READING: all is SURE, in the first and the last CELL, too. */
    private static void sureInOneReading() {
        SixtyTablet x = new SixtyTablet();
        x.tablet(0, 8);
        x.press(0, 0, 2, 33 * 33 * 33);
        x.press(0, 7, 2, 64000);
        CHECK.dueAll("cubes 33 to 40", i -> x.reading(0, i), NONE, 30032);
        CHECK.due("the first", x.sure(0, 0, 0), 33);
        CHECK.due("the last", x.sure(0, 7, 1), 1600);
        CHECK.due("what it holds", x.sure(0, 0, 2), 35937);
    }

    /** "all of them, of whatever KIND, agree in it" */
    private static void sureInReadingsOfTwoKinds() {
        SixtyTablet x = holding(0, 2, 1);
        CHECK.dueAll("_ 2 1", i -> x.reading(0, i), NONE, 3001, 10016);
        CHECK.due("30 in both", x.sure(0, 0, 0), 30);
        SixtyTablet y = holding(0, 59, 3481);
        CHECK.dueAll("_ 59 3481", i -> y.reading(0, i), NONE, 5958, 20058);
        CHECK.due("59 in both", y.sure(0, 0, 0), 59);
    }

    /** One READING that differs, and nothing is SURE: of two, and the last of many. */
    private static void notSureIfOneDiffers() {
        SixtyTablet two = holding(0, 400, 0);
        // Of the list 9, the cube of 20.
        CHECK.dueAll("_ 400 _", i -> two.reading(0, i), NONE, 10006, 30019);
        CHECK.dueFor("_ 400 _", column -> two.sure(0, 0, column), 0, 0, 2);
        CHECK.due("what it holds", two.sure(0, 0, 1), 400);
        // Times 58 has 58 in the next row, too; squares, read last, 59.
        SixtyTablet many = holding(58, 0, 0, 0, 0, 0);
        CHECK.due("readings of 58", many.reading(0, -1), 59);
        CHECK.due("the last of them", many.reading(0, 58), 20057);
        CHECK.due("not sure by it", many.sure(0, 1, 0), 0);
        // 59 is the last row of squares: no row is behind it.
        SixtyTablet last = holding(59, 0, 0, 0, 0, 0);
        CHECK.due("readings of 59", last.reading(0, -1), 58);
        CHECK.due("sure without it", last.sure(0, 1, 0), 59);
        // 1 is the first row of squares and cubes: no row is ahead of it.
        CHECK.due("ahead of 1", holding(0, 0, 0, 1, 0, 0).sure(0, 0, 0), 1);
        CHECK.due("ahead of 2", holding(0, 0, 0, 2, 0, 0).sure(0, 0, 0), 0);
        SixtyTablet broken = new SixtyTablet();
        CHECK.dueFor("all broken", column -> broken.sure(0, 0, column), 0, 0, 1, 2);
    }

    /** "What is SURE in a CELL, as a SIXTY" */
    private static void sureAsASixty() {
        SixtyTablet x = holding(30, 0, 0, 30, 3, 0);
        CHECK.due("60 is told as 1", x.sure(0, 0, 2), 1);
        CHECK.due("90 stays", x.sure(0, 1, 2), 90);
        SixtyTablet y = holding(1800, 120, 3600, 30, 3, 90);
        CHECK.due("held as 3600", y.sure(0, 0, 2), 1);
        CHECK.due("held as 120", y.sure(0, 0, 1), 2);
        CHECK.due("held as 1800", y.sure(0, 0, 0), 30);
    }

    /** "how many": 0, where nothing is SURE, nothing is BROKEN, or there are no READINGS. */
    private static void fillNothing() {
        CHECK.due("all broken", new SixtyTablet().fill(0), 0);
        SixtyTablet eight = new SixtyTablet();
        eight.tablet(0, 8);
        CHECK.due("eight rows, all broken", eight.fill(0), 0);
        CHECK.due("they stay so", eight.told(6), 24);
        CHECK.due("nothing broken", holding(7, 5, 35).fill(0), 0);
        SixtyTablet none = holding(2, 2, 5, 0, 0, 0);
        CHECK.due("no readings", none.fill(0), 0);
        CHECK.due("still broken", none.told(6), 3);
    }

    /** "BROKEN CELLS in which something is SURE hold that then": others stay BROKEN. */
    private static void fillWhatIsSure() {
        SixtyTablet x = holding(7, 0, 0, 0, 0, 0);
        x.press(0, 1, 0, 7);
        CHECK.due("nothing more is sure", x.fill(0), 0);
        SixtyTablet y = holding(7, 0, 0, 7, 0, 0, 0, 0, 0);
        CHECK.due("the head", y.fill(0), 1);
        CHECK.due("it holds 7", y.cell(0, 2, 0), 7);
        CHECK.due("others broken", y.told(6), 6);
        CHECK.due("again", y.fill(0), 0);
        SixtyTablet z = holding(30, 0, 0, 30, 3, 0);
        CHECK.due("three", z.fill(0), 3);
        CHECK.due("as a sixty", z.cell(0, 0, 2), 1);
    }

    /** From two CELLS all others of eight ROWS. */
    private static void fillAllCells() {
        SixtyTablet x = new SixtyTablet();
        x.tablet(3, 8);
        x.press(3, 0, 2, 33 * 33 * 33);
        x.press(3, 7, 2, 64000);
        CHECK.due("fill", x.fill(3), 22);
        CHECK.due("broken", x.told(9), 0);
        for (int row = 0; row < 8; row++) {
            int k = 33 + row;
            CHECK.due("k", x.cell(3, row, 0), k);
            CHECK.due("k k", x.cell(3, row, 1), k * k);
            CHECK.due("k k k", x.cell(3, row, 2), k * k * k);
        }
        CHECK.due("again", x.fill(3), 0);
    }

    /** A CELL that is not BROKEN keeps its number, also if it is no SIXTY. */
    private static void fillKeepsWhatIsHeld() {
        SixtyTablet x = holding(1800, 120, 0, 30, 3, 90);
        CHECK.due("fill", x.fill(0), 1);
        CHECK.due("1800", x.cell(0, 0, 0), 1800);
        CHECK.due("120", x.cell(0, 0, 1), 120);
        CHECK.due("1", x.cell(0, 0, 2), 1);
    }

    /** "NONE: there are READINGS": all BROKEN, one, several. */
    private static void oddWithReadings() {
        CHECK.due("all broken", new SixtyTablet().odd(0), NONE);
        CHECK.due("one reading", holding(7, 5, 35, 7, 6, 42).odd(0), NONE);
        CHECK.due("two readings", holding(30, 2, 1).odd(0), NONE);
        // Cubes alone read it; in times 1, ahead of them, row 1 would stand out.
        CHECK.due("a reading of the last kind", holding(1, 1, 1, 2, 4, 8).odd(0), NONE);
    }

    /** "all ROWS but one agree: that one": the first, the last, each between. */
    private static void oddInEveryRow() {
        for (int row = 0; row < 8; row++) {
            for (int column = 0; column < 3; column++) {
                SixtyTablet x = new SixtyTablet();
                x.copy(0, 3, 0, 20, 8);
                x.press(0, row, column, 77);
                CHECK.due("row " + row + ", column " + column, x.odd(0), row);
            }
            // Two wrong cells, three wrong cells in one row are one row.
            SixtyTablet x = new SixtyTablet();
            x.copy(0, 3, 0, 20, 8);
            for (int column = 0; column < 3; column++) {
                x.press(0, row, column, 77);
            }
            CHECK.due("all of row " + row, x.odd(0), row);
        }
    }

    /** "or there is none such": two ROWS that do not agree. */
    private static void oddWithTwoWrongRows() {
        for (int row = 1; row < 8; row++) {
            SixtyTablet x = new SixtyTablet();
            x.copy(0, 3, 0, 20, 8);
            x.press(0, 0, 0, 77);
            x.press(0, row, 2, 77);
            CHECK.due("rows 0 and " + row, x.odd(0), NONE);
        }
        CHECK.due("no number of any table", holding(77, 77, 77, 77, 77, 77).odd(0), NONE);
    }

    /** A TABLET of one ROW: all ROWS but that one agree, for there are none. */
    private static void oddOfOneRow() {
        CHECK.due("2 2 5", holding(2, 2, 5).odd(0), 0);
        CHECK.due("77 _ _", holding(77, 0, 0).odd(0), 0);
        CHECK.due("2 2 4", holding(2, 2, 4).odd(0), NONE);
        CHECK.due("77 and a broken row", holding(77, 0, 0, 0, 0, 0).odd(0), 0);
        CHECK.due("a broken row and 77", holding(0, 0, 0, 77, 0, 0).odd(0), 1);
    }

    /** "of the first such (by KIND, n, first ROW)" */
    private static void oddOfTheFirstSuch() {
        CHECK.due("n 9 ahead of n 10", holding(10, 5, 50, 9, 6, 54).odd(0), 0);
        CHECK.due("n 9 ahead of n 10", holding(9, 5, 45, 10, 6, 60).odd(0), 1);
        // First row 3 (5 in the second row) comes ahead of first row 4.
        CHECK.due("by the first row", holding(9, 5, 45, 9, 5, 45).odd(0), 0);
        // 2 5 10 is a row of times 2, 80 45 1 of the list, 8 64 512 of cubes: the earlier kind tells which is wrong.
        CHECK.due("times ahead of cubes", holding(8, 64, 512, 2, 5, 10).odd(0), 0);
        CHECK.due("times ahead of cubes", holding(2, 5, 10, 8, 64, 512).odd(0), 1);
        CHECK.due("the list ahead of cubes", holding(8, 64, 512, 80, 45, 1).odd(0), 0);
        CHECK.due("the list ahead of cubes", holding(80, 45, 1, 8, 64, 512).odd(0), 1);
        CHECK.due("times ahead of the list", holding(80, 45, 1, 2, 5, 10).odd(0), 0);
        CHECK.due("times ahead of the list", holding(2, 5, 10, 80, 45, 1).odd(0), 1);
    }

    /** All ROWS have to lie in the table, the one that stands out, too. */
    private static void oddAtTheEndsOfTables() {
        CHECK.due("behind the cubes", holding(40, 1600, 64000, 77, 0, 0).odd(0), NONE);
        CHECK.due("the last two", holding(39, 1521, 59319, 77, 0, 0).odd(0), 1);
        CHECK.due("ahead of the cubes", holding(77, 0, 0, 1, 0, 1, 2, 4, 8).odd(0), NONE);
        CHECK.due("the first two", holding(77, 0, 0, 2, 4, 8).odd(0), 0);
        // 1 1 1 is the first row of each table that has it: nothing is ahead of it, so row 1 is the wrong one.
        CHECK.due("ahead of times 1", holding(1, 0, 0, 1, 1, 1).odd(0), 1);
    }

    /** "from p above q (p 2 to 12)": the first, the last, and p 13, which is none. */
    private static void triplesFromTwoToTwelve() {
        SixtyTablet x = new SixtyTablet();
        CHECK.due("how many", x.triple(0, 0, -1), 31);
        CHECK.due("the first", x.triple(0, 0, 0), 201);
        CHECK.due("the last", x.triple(0, 0, 30), 1211);
        CHECK.due("behind", x.triple(0, 0, 31), NONE);
        CHECK.due("2 1", holding(3, 4, 5).triple(0, 0, 0), 201);
        CHECK.due("12 11", holding(23, 264, 265).triple(0, 0, 0), 1211);
        CHECK.due("12 1", holding(24, 143, 145).triple(0, 0, 0), 1201);
        CHECK.due("13 2", holding(52, 165, 173).triple(0, 0, -1), 0);
        CHECK.due("13 12", holding(25, 312, 313).triple(0, 0, -1), 0);
        CHECK.due("1 0", holding(0, 1, 1).triple(0, 0, -1), 0);
    }

    /** "not both odd, not both even, nothing parting both" */
    private static void triplesNotBothOddOrParted() {
        CHECK.due("3 1, both odd", holding(6, 8, 10).triple(0, 0, -1), 0);
        CHECK.due("4 2, both even", holding(12, 16, 20).triple(0, 0, -1), 0);
        CHECK.due("6 3, parted by 3", holding(27, 36, 45).triple(0, 0, -1), 0);
        CHECK.due("9 6, parted by 3", holding(45, 108, 117).triple(0, 0, -1), 0);
        CHECK.due("10 5, parted by 5", holding(75, 100, 125).triple(0, 0, -1), 0);
        CHECK.due("12 9, parted by 3", holding(63, 216, 225).triple(0, 0, -1), 0);
        CHECK.due("12 3, parted by 3", holding(72, 135, 153).triple(0, 0, -1), 0);
        CHECK.due("9 8", holding(17, 144, 145).triple(0, 0, 0), 908);
        CHECK.due("11 10", holding(21, 220, 221).triple(0, 0, 0), 1110);
    }

    /** "p p less q q and 2 p q, the lesser first", "a below b" */
    private static void triplesTheLesserFirst() {
        CHECK.due("p p less q q is less", holding(3, 4, 5).triple(0, 0, 0), 201);
        CHECK.due("2 p q is less", holding(8, 15, 17).triple(0, 0, 0), 401);
        CHECK.due("the greater first", holding(4, 3, 5).triple(0, 0, -1), 0);
        CHECK.due("the greater first", holding(15, 8, 17).triple(0, 0, -1), 0);
        CHECK.due("20 21 29", holding(20, 21, 29).triple(0, 0, 0), 502);
        CHECK.due("119 120 169", holding(119, 120, 169).triple(0, 0, 0), 1205);
    }

    /** "if its CELLS that are not BROKEN agree with it": as SIXTIES, and each of the three. */
    private static void triplesAgreeInSixties() {
        CHECK.due("180 4 300", holding(180, 4, 300).triple(0, 0, 0), 201);
        CHECK.due("11 60 61 as 11 1 61", holding(11, 1, 61).triple(0, 0, 0), 605);
        CHECK.due("a wrong", holding(2, 4, 5).triple(0, 0, -1), 0);
        CHECK.due("b wrong", holding(3, 5, 5).triple(0, 0, -1), 0);
        CHECK.due("c wrong", holding(3, 4, 6).triple(0, 0, -1), 0);
        CHECK.due("a broken", holding(0, 4, 5).triple(0, 0, 0), 201);
        CHECK.due("b broken", holding(3, 0, 5).triple(0, 0, 0), 201);
        CHECK.due("c broken", holding(3, 4, 0).triple(0, 0, 0), 201);
    }

    /** "how many (i = -1), the i-th by p, then q ..; NONE": on both sides. */
    private static void tripleBehindTheLast() {
        SixtyTablet two = holding(0, 0, 65);
        CHECK.dueAll("65", i -> two.triple(0, 0, i), NONE, 704, 801);
        CHECK.dueFor("two", i -> two.triple(0, 0, i), NONE, 2, -2, MIN, MAX);
        SixtyTablet none = holding(4, 3, 5);
        CHECK.dueFor("none", i -> none.triple(0, 0, i), NONE, 0, 1, -2, MIN, MAX);
        SixtyTablet all = new SixtyTablet();
        CHECK.dueFor("all", i -> all.triple(0, 0, i), NONE, 31, 32, -2, MIN, MAX);
        int ahead = 0;
        for (int i = 0; i < 31; i++) {
            int one = all.triple(0, 0, i);
            CHECK.due("by p, then q", one > ahead ? 1 : 0, 1);
            ahead = one;
        }
    }

    /** "TRIPLES that a ROW may be": the first and the last ROW, each by itself; "UNKNOWN" beside them. */
    private static void tripleOfARow() {
        SixtyTablet x = new SixtyTablet();
        x.tablet(1, 8);
        x.press(1, 0, 0, 3);
        x.press(1, 7, 2, 13);
        CHECK.due("row 0", x.triple(1, 0, 0), 201);
        CHECK.due("row 7", x.triple(1, 7, 0), 302);
        CHECK.due("row 1", x.triple(1, 1, -1), 31);
        CHECK.dueFor("row", row -> x.triple(1, row, -1), UNKNOWN, 8, -1, 9, MIN, MAX);
        x.tablet(1, 8);
        CHECK.dueFor("a row of a new tablet", row -> x.triple(1, row, -1), 31, 0, 1, 7);
        CHECK.due("readings of a new tablet", x.reading(1, -1), readingsOfBroken(8));
        CHECK.dueFor("row, and i", row -> x.triple(1, row, 99), UNKNOWN, 8, -1, MIN, MAX);
    }
}
