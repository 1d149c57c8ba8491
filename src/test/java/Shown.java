/** All that an object tells of its state, in some 200 calls, as a text: two objects in one state show the same. */
final class Shown {
    private Shown() { }

    static String of(SixtyTablet x) {
        StringBuilder text = new StringBuilder();
        for (int what = 0; what < 10; what++) {
            text.append(x.told(what)).append(' ');
        }
        lines(x, text);
        for (int t = 0; t < 4; t++) {
            cells(x, t, text);
        }
        steps(x, text);
        return text.toString();
    }

    private static void lines(SixtyTablet x, StringBuilder text) {
        for (int i = 0; i < x.told(0); i++) {
            text.append("| ");
            for (int what = 0; what < 4; what++) {
                text.append(x.line(i, what)).append(' ');
            }
            text.append(x.sum(i)).append(' ');
        }
    }

    private static void cells(SixtyTablet x, int t, StringBuilder text) {
        text.append("| tablet ");
        for (int row = 0; row < x.told(2 + t); row++) {
            for (int column = 0; column < 3; column++) {
                text.append(x.cell(t, row, column)).append(' ');
            }
        }
    }

    /** What remains of two numbers in each unit tells the steps apart. */
    private static void steps(SixtyTablet x, StringBuilder text) {
        text.append("| units ");
        for (int i = 0; i <= x.told(1); i++) {
            text.append(x.units(167961599999999L, i)).append(' ').append(x.units(98765432101L, i)).append(' ');
        }
    }
}
