import java.math.BigInteger;
import java.util.ArrayList;
import java.util.List;
import java.util.TreeSet;

/** The document written a second time, slowly and with other means than the class: lists, texts, BigInteger. */
final class Model {
    static final int NONE = -6, UNKNOWN = -1, OUTSIDE = -2, STATE = -3, FULL = -4, NO = -5;
    private static final BigInteger SIXTY = BigInteger.valueOf(60);
    private static final BigInteger END = SIXTY.pow(8);

    private record Line(int dx, int dy, int place) { }

    private record Reading(int kind, int n, int first, List<int[]> rows) { }

    private List<Line> lines = new ArrayList<>();
    private final List<Integer> steps = new ArrayList<>();
    private final List<List<int[]>> tablets = new ArrayList<>();

    Model() {
        for (int t = 0; t < 4; t++) {
            tablets.add(broken(1));
        }
    }

    private static long lost(int refusal) {
        return SixtyTablet.LOST + refusal;
    }

    private static boolean number(long v) {
        return v >= 1 && BigInteger.valueOf(v).compareTo(END) < 0;
    }

    private static BigInteger strip(BigInteger v) {
        BigInteger left = v;
        while (left.mod(SIXTY).signum() == 0) {
            left = left.divide(SIXTY);
        }
        return left;
    }

    private static long strip(long v) {
        return strip(BigInteger.valueOf(v)).longValueExact();
    }

    private static List<Integer> digits(long v) {
        List<Integer> all = new ArrayList<>();
        for (long left = v; left > 0; left /= 60) {
            all.add(0, (int) (left % 60));
        }
        return all;
    }

    private static List<Integer> pressed(long v) {
        List<Integer> all = digits(v);
        all.removeIf(d -> d == 0);
        return all;
    }

    private static long pick(List<? extends Number> from, int i, long none) {
        if (i == -1) {
            return from.size();
        }
        return i >= 0 && i < from.size() ? from.get(i).longValue() : none;
    }

    long sixty(long v) {
        return number(v) ? strip(v) : lost(OUTSIDE);
    }

    long digit(long v, int i) {
        return number(v) ? pick(digits(strip(v)), i, NONE) : OUTSIDE;
    }

    long sight(long v, int i) {
        return number(v) ? pick(pressed(v), i, NONE) : OUTSIDE;
    }

    long like(long v, int d, int i) {
        if (!number(v) || d < 1 || d > 8) {
            return lost(OUTSIDE);
        }
        TreeSet<Long> all = new TreeSet<>();
        spread(pressed(v), 0, 0, 0, d, all);
        return pick(new ArrayList<>(all), i, lost(NONE));
    }

    /** Puts zeros between signs in all ways in which at most d digits are used. */
    private static void spread(List<Integer> signs, int next, int used, long so, int d, TreeSet<Long> all) {
        if (next == signs.size()) {
            all.add(so);
            return;
        }
        long shifted = so;
        for (int zeros = 0; used + zeros + 1 <= d; zeros++) {
            spread(signs, next + 1, used + zeros + 1, shifted * 60 + signs.get(next), d, all);
            if (next == 0) {
                return;
            }
            shifted *= 60;
        }
    }

    long put(long x, long y, int k) {
        if (!number(x) || !number(y) || k < -7 || k > 7) {
            return lost(OUTSIDE);
        }
        BigInteger one = BigInteger.valueOf(x).multiply(SIXTY.pow(Math.max(0, -k)));
        BigInteger other = BigInteger.valueOf(y).multiply(SIXTY.pow(Math.max(0, k)));
        BigInteger both = one.add(other);
        return both.compareTo(END) < 0 ? strip(both).longValueExact() : lost(FULL);
    }

    private static boolean isEven(long v) {
        return SIXTY.pow(60).mod(BigInteger.valueOf(v)).signum() == 0;
    }

    private static BigInteger over(long v) {
        return strip(SIXTY.pow(60).divide(BigInteger.valueOf(v)));
    }

    long even(long v) {
        return number(v) ? isEven(v) ? 1 : 0 : OUTSIDE;
    }

    long turned(long v) {
        if (!number(v)) {
            return lost(OUTSIDE);
        }
        if (!isEven(v)) {
            return lost(NO);
        }
        return over(v).compareTo(END) < 0 ? over(v).longValueExact() : lost(FULL);
    }

    private static List<Integer> theList() {
        List<Integer> all = new ArrayList<>();
        for (int v = 2; v <= 81; v++) {
            if (v != 60 && isEven(v)) {
                all.add(v);
            }
        }
        return all;
    }

    private static final List<Integer> LIST = theList();

    long list(int i) {
        return pick(LIST, i, UNKNOWN);
    }

    long factor(long v, int i) {
        if (!number(v)) {
            return OUTSIDE;
        }
        if (!isEven(v)) {
            return NO;
        }
        List<Integer> written = new ArrayList<>();
        long left = strip(v);
        while (left != 1 && !LIST.contains((int) Math.min(left, 1000))) {
            int greatest = 0;
            for (int f : LIST) {
                greatest = left % f == 0 ? f : greatest;
            }
            written.add(greatest);
            left = strip(left / greatest);
        }
        if (left != 1) {
            written.add((int) left);
        }
        return pick(written, i, NONE);
    }

    long root(long v, int p) {
        if (!number(v) || p < 0 || p > 3) {
            return lost(OUTSIDE);
        }
        BigInteger raised = BigInteger.valueOf(v).multiply(BigInteger.valueOf(3600).pow(p));
        return raised.compareTo(SIXTY.pow(10)) < 0 ? raised.sqrt().longValueExact() : lost(FULL);
    }

    long times(long x, long y) {
        if (x < 1 || y < 1 || x >= 12960000 || y >= 12960000) {
            return OUTSIDE;
        }
        lines = new ArrayList<>();
        List<Integer> ofX = digits(x);
        List<Integer> ofY = digits(y);
        for (int i = 0; i < ofX.size(); i++) {
            for (int j = 0; j < ofY.size(); j++) {
                if (ofX.get(i) != 0 && ofY.get(j) != 0) {
                    lines.add(new Line(ofX.get(i), ofY.get(j), ofX.size() - 1 - i + ofY.size() - 1 - j));
                }
            }
        }
        return lines.size();
    }

    private boolean hasLine(int i) {
        return i >= 0 && i < lines.size();
    }

    long line(int i, int what) {
        if (!hasLine(i)) {
            return UNKNOWN;
        }
        Line l = lines.get(i);
        int[] all = {l.dx * l.dy, l.place, l.dx, l.dy};
        return what >= 0 && what < 4 ? all[what] : OUTSIDE;
    }

    /** Sum j, line i being written as these digits at that place; i = -1: no slip. */
    private BigInteger sumWith(int j, int i, String written, int place) {
        BigInteger all = BigInteger.ZERO;
        for (int l = 0; l <= j; l++) {
            if (l == i) {
                BigInteger value = BigInteger.ZERO;
                for (String d : written.split("\\.")) {
                    value = value.multiply(SIXTY).add(new BigInteger(d));
                }
                all = all.add(value.multiply(SIXTY.pow(place)));
            } else {
                Line line = lines.get(l);
                all = all.add(BigInteger.valueOf((long) line.dx * line.dy).multiply(SIXTY.pow(line.place)));
            }
        }
        return all;
    }

    long sum(int i) {
        return hasLine(i) ? sumWith(i, -1, "", 0).longValueExact() : lost(UNKNOWN);
    }

    /** The digits that a slip writes; null if there is no such slip. */
    private String slipDigits(int i, int kind, int which) {
        Line l = lines.get(i);
        int a = l.dx * l.dy / 60;
        int b = l.dx * l.dy % 60;
        switch (10 * kind + which) {
            case 0: return a != 0 ? "" + b : null;
            case 1: return a != 0 && b != 0 ? "" + a : null;
            case 10: return l.place != 0 ? a + "." + b : null;
            case 20: return l.dy - 1 >= 1 ? "" + l.dx * (l.dy - 1) : null;
            case 21: return l.dy + 1 <= 59 ? "" + l.dx * (l.dy + 1) : null;
            case 30: return a != 0 ? a + "." + a + "." + b : null;
            case 31: return b != 0 ? a + "." + b + "." + b : null;
            default: return null;
        }
    }

    private BigInteger slipSum(int i, int kind, int which, int j) {
        String written = slipDigits(i, kind, which);
        return written == null ? null : sumWith(j, i, written, lines.get(i).place - (kind == 1 ? 1 : 0));
    }

    long slip(int i, int kind, int which, int j) {
        if (!hasLine(i) || !hasLine(j)) {
            return lost(UNKNOWN);
        }
        if (kind < 0 || kind > 3 || which < 0 || which > 1) {
            return lost(OUTSIDE);
        }
        BigInteger so = slipSum(i, kind, which, j);
        return so == null ? lost(NO) : so.longValueExact();
    }

    long blame(long e, int n) {
        if (lines.isEmpty()) {
            return STATE;
        }
        List<Integer> all = new ArrayList<>();
        int last = lines.size() - 1;
        for (int i = 0; i <= last; i++) {
            for (int kind = 0; kind < 4; kind++) {
                for (int which = 0; which < 2; which++) {
                    BigInteger so = slipSum(i, kind, which, last);
                    if (so != null && so.equals(BigInteger.valueOf(e)) && sum(last) != e) {
                        all.add(100 * i + 10 * kind + which);
                    }
                }
            }
        }
        return pick(all, n, NONE);
    }

    private static List<int[]> broken(int rows) {
        List<int[]> all = new ArrayList<>();
        for (int r = 0; r < rows; r++) {
            all.add(new int[3]);
        }
        return all;
    }

    private boolean hasTablet(int t) {
        return t >= 0 && t < 4;
    }

    private boolean hasCell(int t, int row, int column) {
        return hasTablet(t) && row >= 0 && row < tablets.get(t).size() && column >= 0 && column < 3;
    }

    long tablet(int t, int rows) {
        if (!hasTablet(t)) {
            return UNKNOWN;
        }
        if (rows < 1 || rows > 8) {
            return OUTSIDE;
        }
        tablets.set(t, broken(rows));
        return 1;
    }

    long press(int t, int row, int column, int v) {
        if (!hasCell(t, row, column)) {
            return UNKNOWN;
        }
        if (v < 0 || v > 12959999) {
            return OUTSIDE;
        }
        int before = tablets.get(t).get(row)[column];
        tablets.get(t).get(row)[column] = v;
        return before;
    }

    long cell(int t, int row, int column) {
        return hasCell(t, row, column) ? tablets.get(t).get(row)[column] : UNKNOWN;
    }

    private static List<int[]> table(int kind, int n) {
        List<int[]> rows = new ArrayList<>();
        if (kind == 1) {
            for (int v : LIST) {
                rows.add(new int[] {v, over(v).intValueExact(), 1});
            }
        }
        for (int k = 1; kind != 1 && k <= (kind == 3 ? 40 : 59); k++) {
            rows.add(kind == 0 ? new int[] {n, k, n * k} : kind == 2 ? new int[] {k, k, k * k}
                : new int[] {k, k * k, k * k * k});
        }
        return rows;
    }

    private static final List<Reading> TABLES = tables();

    private static List<Reading> tables() {
        List<Reading> all = new ArrayList<>();
        for (int kind = 0; kind < 4; kind++) {
            for (int n = kind == 0 ? 1 : 0; n <= (kind == 0 ? 59 : 0); n++) {
                all.add(new Reading(kind, n, 0, table(kind, n)));
            }
        }
        return all;
    }

    long copy(int t, int kind, int n, int first, int rows) {
        if (!hasTablet(t)) {
            return UNKNOWN;
        }
        Reading found = null;
        for (Reading one : TABLES) {
            found = one.kind == kind && one.n == n ? one : found;
        }
        if (found == null || rows < 1 || rows > 8) {
            return OUTSIDE;
        }
        if (first < 0 || (long) first + rows > found.rows.size()) {
            return NO;
        }
        List<int[]> copied = new ArrayList<>();
        for (int r = 0; r < rows; r++) {
            copied.add(found.rows.get(first + r).clone());
        }
        tablets.set(t, copied);
        return rows;
    }

    private static boolean agree(int[] clay, int[] row) {
        for (int c = 0; c < 3; c++) {
            if (clay[c] != 0 && strip60(clay[c]) != strip60(row[c])) {
                return false;
            }
        }
        return true;
    }

    private static int strip60(int v) {
        return v % 60 == 0 ? strip60(v / 60) : v;
    }

    /** The places in the tables at which all rows but so many agree. */
    private List<Reading> places(int t, int strays) {
        List<int[]> clay = tablets.get(t);
        List<Reading> all = new ArrayList<>();
        for (Reading table : TABLES) {
            for (int first = 0; first + clay.size() <= table.rows.size(); first++) {
                List<int[]> part = table.rows.subList(first, first + clay.size());
                int wrong = 0;
                for (int r = 0; r < clay.size(); r++) {
                    wrong += agree(clay.get(r), part.get(r)) ? 0 : 1;
                }
                if (wrong == strays) {
                    all.add(new Reading(table.kind, table.n, first, part));
                }
            }
        }
        return all;
    }

    long reading(int t, int i) {
        if (!hasTablet(t)) {
            return UNKNOWN;
        }
        List<Integer> codes = new ArrayList<>();
        for (Reading r : places(t, 0)) {
            codes.add(10000 * r.kind + 100 * r.n + r.first);
        }
        return pick(codes, i, NONE);
    }

    private static int sureIn(List<Reading> readings, int row, int column) {
        TreeSet<Integer> seen = new TreeSet<>();
        for (Reading r : readings) {
            seen.add(strip60(r.rows.get(row)[column]));
        }
        return seen.size() == 1 ? seen.first() : 0;
    }

    long sure(int t, int row, int column) {
        return hasCell(t, row, column) ? sureIn(places(t, 0), row, column) : UNKNOWN;
    }

    long fill(int t) {
        if (!hasTablet(t)) {
            return UNKNOWN;
        }
        List<Reading> readings = places(t, 0);
        int filled = 0;
        for (int row = 0; row < tablets.get(t).size(); row++) {
            for (int column = 0; column < 3; column++) {
                int sure = sureIn(readings, row, column);
                if (tablets.get(t).get(row)[column] == 0 && sure != 0) {
                    tablets.get(t).get(row)[column] = sure;
                    filled++;
                }
            }
        }
        return filled;
    }

    long odd(int t) {
        if (!hasTablet(t)) {
            return UNKNOWN;
        }
        List<Reading> near = places(t, 1);
        if (!places(t, 0).isEmpty() || near.isEmpty()) {
            return NONE;
        }
        int row = 0;
        while (agree(tablets.get(t).get(row), near.get(0).rows.get(row))) {
            row++;
        }
        return row;
    }

    long triple(int t, int row, int i) {
        if (!hasCell(t, row, 0)) {
            return UNKNOWN;
        }
        List<Integer> all = new ArrayList<>();
        for (int p = 2; p <= 12; p++) {
            for (int q = 1; q < p; q++) {
                boolean apart = BigInteger.valueOf(p).gcd(BigInteger.valueOf(q)).intValue() == 1;
                if (apart && !(p % 2 == 1 && q % 2 == 1)) {
                    int[] legs = {p * p - q * q, 2 * p * q};
                    java.util.Arrays.sort(legs);
                    if (agree(tablets.get(t).get(row), new int[] {legs[0], legs[1], p * p + q * q})) {
                        all.add(100 * p + q);
                    }
                }
            }
        }
        return pick(all, i, NONE);
    }

    long join(int t, int u, int s) {
        if (!hasTablet(t) || !hasTablet(u) || t == u) {
            return UNKNOWN;
        }
        if (s < 0 || s > 7) {
            return OUTSIDE;
        }
        List<int[]> one = tablets.get(t);
        List<int[]> other = tablets.get(u);
        if (s > one.size()) {
            return STATE;
        }
        int rows = Math.max(one.size(), s + other.size());
        if (rows > 8) {
            return FULL;
        }
        List<int[]> joined = broken(rows);
        for (int row = 0; row < rows; row++) {
            for (int column = 0; column < 3; column++) {
                int a = row < one.size() ? one.get(row)[column] : 0;
                int b = row >= s && row - s < other.size() ? other.get(row - s)[column] : 0;
                if (a != 0 && b != 0 && strip60(a) != strip60(b)) {
                    return NO;
                }
                joined.get(row)[column] = a != 0 ? a : b;
            }
        }
        tablets.set(t, joined);
        return rows;
    }

    long problem(int kind, int x, int y, int part) {
        if (kind < 0 || kind > 5 || x < 1 || x > 1000000 || y < 1 || y > 1000000 || part < 0 || part > 1) {
            return lost(OUTSIDE);
        }
        long[] answers = answers(kind, x, y);
        if (answers == null) {
            return lost(NO);
        }
        return part < answers.length ? answers[part] : 0;
    }

    private static long[] answers(int kind, int x, int y) {
        if (kind == 0 || kind == 5) {
            return new long[] {(long) x * y};
        }
        if (kind == 1) {
            if (!isEven(y) || over(y).compareTo(END) >= 0) {
                return null;
            }
            BigInteger all = over(y).multiply(BigInteger.valueOf(strip(x)));
            return all.compareTo(END) < 0 ? new long[] {strip(all).longValueExact()} : null;
        }
        if (kind == 2) {
            for (long side = 1; side * side <= x; side++) {
                if (side * side == x) {
                    return new long[] {side};
                }
            }
            return null;
        }
        for (long width = 1; width * width <= y; width++) {
            long length = y / width;
            if (width * length == y && (kind == 3 ? length + width == x : length - width == x)) {
                return new long[] {length, width};
            }
        }
        return null;
    }

    long unit(int many) {
        if (many < 2 || many > 100) {
            return OUTSIDE;
        }
        if (steps.size() == 5) {
            return FULL;
        }
        steps.add(many);
        return steps.size();
    }

    long wipe() {
        int before = steps.size();
        steps.clear();
        return before;
    }

    long units(long v, int i) {
        if (i < 0 || i > steps.size()) {
            return lost(UNKNOWN);
        }
        if (v != 0 && !number(v)) {
            return lost(OUTSIDE);
        }
        // From the greatest on down: what is left of v by what a unit is worth.
        long left = v;
        for (int u = steps.size(); u >= 0; u--) {
            long worth = 1;
            for (int s = 0; s < u; s++) {
                worth *= steps.get(s);
            }
            if (u == i) {
                return left / worth;
            }
            left -= left / worth * worth;
        }
        return 0;
    }

    long told(int what) {
        if (what < 0 || what > 9) {
            return OUTSIDE;
        }
        if (what < 2) {
            return what == 0 ? lines.size() : steps.size();
        }
        List<int[]> clay = tablets.get((what - 2) % 4);
        int broken = 0;
        for (int[] row : clay) {
            for (int v : row) {
                broken += v == 0 ? 1 : 0;
            }
        }
        return what < 6 ? clay.size() : broken;
    }
}
