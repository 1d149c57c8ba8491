import java.util.ArrayList;
import java.util.HashMap;
import java.util.List;
import java.util.Map;

/**
 * The sentences that say what the calls of promises 17 to 26 answer in the ordinary case, each held by its own words: over
 * all ROWS of all tables, all of their CELLS broken or not, all ways to lay two TABLETS.
 */
public final class SentencesTabletsTest {
    private static final Check CHECK = new Check();
    private static final int NONE = -6;
    /** All tables, by KIND and n, as the document writes their ROWS. */
    private static final List<int[][]> TABLES = new ArrayList<>();
    private static final List<int[]> HEADS = new ArrayList<>();

    public static void main(String[] args) {
        writeTables();
        aCellHoldsANumber();
        allBrokenAtFirst();
        tablesAreCopied();
        readingsOfOneRow();
        readingsOfRowsOneBehindTheOther();
        theRowThatStandsOut();
        triplesHaveSquares();
        rowsOfTriples();
        joinsOfAllRows();
        CHECK.end();
    }

    /**
     * "0 TIMES n (1 to 59): ROWS n, k, n k, k 1 to 59; 1 LIST: ROWS n of THE LIST, what it is turned over, 1; 2 SQUARES: k, k,
     * k k, k 1 to 59; 3 CUBES: k, k k, k k k, k 1 to 40."
     */
    private static void writeTables() {
        for (int n = 1; n <= 59; n++) {
            int[][] times = new int[59][];
            for (int k = 1; k <= 59; k++) {
                times[k - 1] = new int[] {n, k, n * k};
            }
            add(0, n, times);
        }
        SixtyTablet x = new SixtyTablet();
        int[][] list = new int[x.list(-1)][];
        for (int row = 0; row < list.length; row++) {
            list[row] = new int[] {x.list(row), (int) x.turned(x.list(row)), 1};
        }
        add(1, 0, list);
        int[][] squares = new int[59][];
        for (int k = 1; k <= 59; k++) {
            squares[k - 1] = new int[] {k, k, k * k};
        }
        add(2, 0, squares);
        int[][] cubes = new int[40][];
        for (int k = 1; k <= 40; k++) {
            cubes[k - 1] = new int[] {k, k * k, k * k * k};
        }
        add(3, 0, cubes);
    }

    private static void add(int kind, int n, int[][] rows) {
        TABLES.add(rows);
        HEADS.add(new int[] {kind, n});
    }

    private static int sixty(int v) {
        int left = v;
        while (left != 0 && left % 60 == 0) {
            left /= 60;
        }
        return left;
    }

    private static int code(int table, int first) {
        return 10000 * HEADS.get(table)[0] + 100 * HEADS.get(table)[1] + first;
    }

    /**
     * "TABLETS 0 to 3 have 1 to 8 ROWS of COLUMNS 0 to 2", "A CELL holds a number (0: it is BROKEN): what it held (0).",
     * "What a CELL holds; 0: BROKEN."
     */
    private static void aCellHoldsANumber() {
        SixtyTablet x = new SixtyTablet();
        for (int t = 0; t < 4; t++) {
            CHECK.due("tablet " + t, x.tablet(t, 8), 1);
        }
        for (int c = 0; c < 96; c++) {
            CHECK.due("press " + c, x.press(c / 24, c / 3 % 8, c % 3, 60 * (c + 1)), 0);
        }
        for (int c = 0; c < 96; c++) {
            CHECK.due("cell " + c, x.cell(c / 24, c / 3 % 8, c % 3), 60 * (c + 1));
        }
        for (int c = 0; c < 96; c++) {
            CHECK.due("broken again " + c, x.press(c / 24, c / 3 % 8, c % 3, 0), 60 * (c + 1));
            CHECK.due("it is BROKEN " + c, x.cell(c / 24, c / 3 % 8, c % 3), 0);
        }
    }

    /** "(all are, at first; 1 ROW)", "A TABLET of so many ROWS, all BROKEN: 1." */
    private static void allBrokenAtFirst() {
        for (int t = 0; t < 4; t++) {
            for (int rows = 1; rows <= 8; rows++) {
                SixtyTablet x = new SixtyTablet();
                CHECK.due("rows at first", x.told(2 + t), 1);
                CHECK.due("broken at first", x.told(6 + t), 3);
                x.copy(t, 2, 0, 9, 8);
                CHECK.due("anew", x.tablet(t, rows), 1);
                CHECK.due("rows", x.told(2 + t), rows);
                CHECK.due("all broken", x.told(6 + t), 3 * rows);
                for (int c = 0; c < 24; c++) {
                    CHECK.due("cell " + c, x.cell(t, c / 3, c % 3), c / 3 < rows ? 0 : -1);
                }
            }
        }
    }

    /** "A TABLET becomes so many ROWS of a table: KIND, n, the first ROW: its ROWS." */
    private static void tablesAreCopied() {
        for (int table = 0; table < TABLES.size(); table++) {
            int[][] rows = TABLES.get(table);
            int kind = HEADS.get(table)[0];
            int n = HEADS.get(table)[1];
            for (int first = 0; first < rows.length; first++) {
                SixtyTablet x = new SixtyTablet();
                int many = Math.min(1 + (first + n) % 8, rows.length - first);
                int t = (first + n) % 4;
                CHECK.due("copy", x.copy(t, kind, n, first, many), many);
                CHECK.due("its ROWS", x.told(2 + t), many);
                CHECK.due("none of them broken", x.told(6 + t), 0);
                for (int c = 0; c < 3 * many; c++) {
                    CHECK.due("KIND " + kind + " " + n + " from " + first + ", cell " + c,
                        x.cell(t, c / 3, c % 3), rows[first + c / 3][c % 3]);
                }
                CHECK.due("one more than it has", x.copy(t, kind, n, rows.length - many, many + 1), many == 8 ? -2 : -5);
            }
        }
    }

    /** What a ROW shows, if the CELLS of a mask alone are not broken. */
    private static String shown(int[] row, int mask) {
        StringBuilder text = new StringBuilder();
        for (int column = 0; column < 3; column++) {
            text.append((mask >> column & 1) == 1 ? sixty(row[column]) : 0).append(' ');
        }
        return text.toString();
    }

    /**
     * "A READING of a TABLET by a KIND .. agree in all CELLS that are not BROKEN", "In order by KIND, n, first ROW.": all ROWS
     * of all tables, of each of them all CELLS broken or not. "A CELL is SURE, if there are READINGS, and all of them, of
     * whatever KIND, agree in it.", "What is SURE in a CELL, as a SIXTY; 0: nothing is."
     */
    private static void readingsOfOneRow() {
        for (int mask = 0; mask < 8; mask++) {
            Map<String, List<int[]>> alike = new HashMap<>();
            for (int table = 0; table < TABLES.size(); table++) {
                for (int first = 0; first < TABLES.get(table).length; first++) {
                    alike.computeIfAbsent(shown(TABLES.get(table)[first], mask), s -> new ArrayList<>())
                        .add(new int[] {table, first});
                }
            }
            for (List<int[]> readings : alike.values()) {
                dueReadings(readings, mask);
            }
        }
    }

    private static void dueReadings(List<int[]> readings, int mask) {
        SixtyTablet x = new SixtyTablet();
        int[] held = TABLES.get(readings.get(0)[0])[readings.get(0)[1]];
        for (int column = 0; column < 3; column++) {
            x.press(0, 0, column, (mask >> column & 1) == 1 ? held[column] : 0);
        }
        int many = readings.size();
        CHECK.due("how many readings", x.reading(0, -1), many);
        for (int i = 0; i < many; i += 1 + many / 100) {
            CHECK.due("reading " + i, x.reading(0, i), code(readings.get(i)[0], readings.get(i)[1]));
        }
        CHECK.due("behind the last one", x.reading(0, many), NONE);
        CHECK.due("none stands out", x.odd(0), NONE);
        int filled = 0;
        int[] sure = new int[3];
        for (int column = 0; column < 3; column++) {
            sure[column] = sixty(held[column]);
            for (int[] reading : readings) {
                int here = sixty(TABLES.get(reading[0])[reading[1]][column]);
                sure[column] = here == sure[column] ? sure[column] : 0;
            }
            filled += sure[column] != 0 && (mask >> column & 1) == 0 ? 1 : 0;
            CHECK.due("sure in " + column, x.sure(0, 0, column), sure[column]);
        }
        CHECK.due("fill", x.fill(0), filled);
        for (int column = 0; column < 3; column++) {
            CHECK.due("held in " + column, x.cell(0, 0, column), (mask >> column & 1) == 1 ? held[column] : sure[column]);
        }
    }

    /**
     * "n (0 in KINDS 1 to 3) and a first ROW of the table (from 0 on), such that the TABLET's ROWS are as many of the table's,
     * one behind the other", "10000 times the KIND, 100 times n, and the first ROW": a table's last ROWS, too; and ROWS that
     * are not one behind the other are none.
     */
    private static void readingsOfRowsOneBehindTheOther() {
        for (int table = 0; table < TABLES.size(); table++) {
            int last = TABLES.get(table).length - 1;
            for (int first : new int[] {0, 1, 17, last - 9, last - 7}) {
                SixtyTablet x = new SixtyTablet();
                x.copy(1, HEADS.get(table)[0], HEADS.get(table)[1], first, 8);
                CHECK.due("whole", x.reading(1, -1), 1);
                CHECK.due("whole", x.reading(1, 0), code(table, first));
                for (int c = 0; c < 3; c++) {
                    x.press(1, 3 + c, c, 0);
                    CHECK.due("sure, from the ROWS beside", x.sure(1, 3 + c, c), sixty(TABLES.get(table)[first + 3 + c][c]));
                }
                CHECK.due("three broken", x.reading(1, 0), code(table, first));
                CHECK.due("three filled", x.fill(1), 3);
                int[] next = TABLES.get(table)[first];
                for (int column = 0; column < 3; column++) {
                    x.press(1, 1, column, next[column]);
                }
                CHECK.due("a ROW twice is no reading", x.reading(1, -1), 0);
                CHECK.due("a ROW twice stands out", x.odd(1), 1);
            }
        }
    }

    /**
     * "The ROW that stands out: there being no READINGS, but a KIND, n, first ROW with which all ROWS but one agree: that
     * one": each ROW of four, in each table, by a number that no table has.
     */
    private static void theRowThatStandsOut() {
        for (int table = 0; table < TABLES.size(); table++) {
            for (int row = 0; row < 4; row++) {
                SixtyTablet x = new SixtyTablet();
                x.copy(2, HEADS.get(table)[0], HEADS.get(table)[1], 7, 4);
                x.press(2, row, (table + row) % 3, 12959999);
                CHECK.due("row " + row + " of table " + table, x.odd(2), row);
                CHECK.due("sure, there being no readings", x.sure(2, 0, 0), 0);
                x.press(2, (row + 1) % 4, table % 3, 12959998);
                CHECK.due("two rows of table " + table, x.odd(2), NONE);
            }
        }
    }

    private static int common(int p, int q) {
        return q == 0 ? p : common(q, p % q);
    }

    /** The codes and sides of all TRIPLES, by their words: any two sides whose squares are a square, made from p and q. */
    private static List<int[]> triples() {
        List<int[]> found = new ArrayList<>();
        for (int p = 2; p <= 12; p++) {
            for (int q = 1; q < p; q++) {
                if (p % 2 != q % 2 && common(p, q) == 1) {
                    int a = p * p - q * q;
                    int b = 2 * p * q;
                    found.add(new int[] {100 * p + q, Math.min(a, b), Math.max(a, b), p * p + q * q});
                }
            }
        }
        return found;
    }

    /** "A TRIPLE: a, b, c with a a and b b being c c, a below b", "the i-th by p, then q: 100 p and q" */
    private static void triplesHaveSquares() {
        List<int[]> all = triples();
        SixtyTablet x = new SixtyTablet();
        CHECK.due("how many", x.triple(3, 0, -1), all.size());
        for (int i = 0; i < all.size(); i++) {
            int[] sides = all.get(i);
            CHECK.due("triple " + i, x.triple(3, 0, i), sides[0]);
            CHECK.due("a a and b b", sides[1] * sides[1] + sides[2] * sides[2], sides[3] * sides[3]);
            CHECK.due("a below b", sides[1] < sides[2] ? 1 : 0, 1);
        }
        CHECK.due("behind the last one", x.triple(3, 0, all.size()), NONE);
    }

    /** "A ROW is a TRIPLE's, if its CELLS that are not BROKEN agree with it.": all CELLS of all TRIPLES, broken or not. */
    private static void rowsOfTriples() {
        List<int[]> all = triples();
        for (int mask = 0; mask < 8; mask++) {
            for (int[] sides : all) {
                SixtyTablet x = new SixtyTablet();
                x.tablet(3, 2);
                for (int column = 0; column < 3; column++) {
                    x.press(3, 1, column, (mask >> column & 1) == 1 ? 60 * sides[1 + column] : 0);
                }
                int many = 0;
                for (int[] other : all) {
                    if (agree(sides, other, mask)) {
                        CHECK.due("triple " + many + " of " + sides[0] + ", " + mask, x.triple(3, 1, many), other[0]);
                        many++;
                    }
                }
                CHECK.due("triples of " + sides[0] + ", " + mask, x.triple(3, 1, -1), many);
                CHECK.due("the ROW ahead of it", x.triple(3, 0, -1), all.size());
            }
        }
    }

    private static boolean agree(int[] sides, int[] other, int mask) {
        for (int column = 0; column < 3; column++) {
            if ((mask >> column & 1) == 1 && sixty(sides[1 + column]) != sixty(other[1 + column])) {
                return false;
            }
        }
        return true;
    }

    /**
     * "JOIN of two TABLETS, s the ROW of the first one at which the second one's ROW 0 lies (0 to 7): CELLS that both hold have
     * to agree, the joined one holds what either does (the first one's number, if both do), ROWS up to the last one of either,
     * 8 at most; it is the first one then.", "JOIN: ROWS of the joined one."
     */
    private static void joinsOfAllRows() {
        for (int first = 1; first <= 8; first++) {
            for (int second = 1; second <= 8; second++) {
                for (int s = 0; s <= 7; s++) {
                    joinOf(first, second, s);
                }
            }
        }
    }

    /** Each holds column 0, the first one 60 times as much; the first one column 1 alone, the second one column 2 alone. */
    private static void joinOf(int first, int second, int s) {
        SixtyTablet x = new SixtyTablet();
        String call = first + " and " + second + " at " + s;
        x.tablet(3, first);
        x.tablet(1, second);
        for (int row = 0; row < first; row++) {
            x.press(3, row, 0, 60 * (row + 1));
            x.press(3, row, 1, 100 + row);
        }
        for (int row = 0; row < second; row++) {
            x.press(1, row, 0, s + row + 1);
            x.press(1, row, 2, 200 + s + row);
        }
        boolean joins = s <= first && s + second <= 8;
        int rows = joins ? Math.max(first, s + second) : first;
        CHECK.due(call, x.join(3, 1, s), s > first ? -3 : joins ? rows : -4);
        CHECK.due(call + ", the joined one", x.told(5), rows);
        CHECK.due(call + ", the second one", x.told(3), second);
        for (int row = 0; row < rows; row++) {
            boolean under = joins && row >= s && row < s + second;
            CHECK.due(call + " " + row + " 0", x.cell(3, row, 0), row < first ? 60 * (row + 1) : under ? row + 1 : 0);
            CHECK.due(call + " " + row + " 1", x.cell(3, row, 1), row < first ? 100 + row : 0);
            CHECK.due(call + " " + row + " 2", x.cell(3, row, 2), under ? 200 + row : 0);
        }
        for (int row = 0; row < second; row++) {
            CHECK.due(call + ", the second one's " + row, x.cell(1, row, 0), s + row + 1);
            CHECK.due(call + ", the second one's " + row, x.cell(1, row, 1), 0);
        }
    }
}
