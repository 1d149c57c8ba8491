/** Objects for calls that need nothing of the state: a new one as soon as one has been used for 512 calls. */
final class Fresh {
    private static final int GOOD_FOR = 512;

    private SixtyTablet x = new SixtyTablet();
    private int calls = 0;

    /** For one call. */
    SixtyTablet next() {
        if (calls == GOOD_FOR) {
            x = new SixtyTablet();
            calls = 0;
        }
        calls++;
        return x;
    }
}
