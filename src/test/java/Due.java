/** What the project's tests share: the findings, the comparison of answers, and texts for the tape. */
final class Due {
    static final int BEYOND = -1000001;
    static final int FULL = -1000002;
    static final int KIND = -1000003;
    static final int NONE = -1000004;
    static final int STATE = -1000005;
    static final int MISSING = -1000006;
    static final int SIZE = -1000007;

    static final int NUT = 0;
    static final int LARGE = 1;
    static final int SMALL = 2;
    static final int SWEET = 3;
    static final int RAW = 4;
    static final int WORMED = 5;
    static final int OLD = 6;

    static final int PAN = 1;
    static final int RIM = 2;
    static final int HEAP = 3;
    static final int GONE = 4;

    private final String test;
    private int asked = 0;
    private int wrong = 0;

    Due(String test) {
        this.test = test;
    }

    void is(String call, int got, int want) {
        asked++;
        if (got != want) {
            wrong++;
            System.out.println(test + ": " + call + " answered " + got + ", due is " + want);
        }
    }

    void holds(String what, boolean so) {
        is(what, so ? 1 : 0, 1);
    }

    /** Whether two rows are alike: the first place at which they differ is told. */
    void same(String what, int[] got, int[] want) {
        int i = 0;
        while (i < got.length - 1 && got[i] == want[i]) {
            i++;
        }
        is(what + " place " + i, got[i], want[i]);
    }

    /** Ends the test: with exit code 1 if an answer was wrong, or if nothing was asked. */
    void end() {
        System.out.println(test + ": " + asked + " asked, " + wrong + " wrong");
        if (wrong != 0 || asked == 0) {
            System.exit(1);
        }
    }

    /** Feeds a text, four bytes at a time, since an object has but 512 calls. */
    static void feed(ChestnutCorner x, String text) {
        for (int i = 0; i < text.length(); i += 4) {
            int n = Math.min(4, text.length() - i);
            int bytes = 0;
            for (int j = 0; j < n; j++) {
                bytes = bytes << 8 | text.charAt(i + j);
            }
            x.feed(bytes, n);
        }
    }

    /** An object on which a text has been read. */
    static ChestnutCorner told(String text) {
        ChestnutCorner x = new ChestnutCorner();
        feed(x, text);
        int items = x.text();
        if (items < 1) {
            throw new IllegalStateException("not a text: " + text + " (" + items + ")");
        }
        return x;
    }
}
