/**
 * All but status() that can be asked of an object, as one row of answers: two objects with the same row are alike. The
 * object is spent behind it: at the end its tape is read, its sheets are loaded, its image comes back and is torn. It
 * takes some 400 calls of the 512 that an object has.
 */
final class Told {
    private static final int[] AHEAD = {1, 2, 9};

    private final ChestnutCorner x;
    private final int[] row = new int[1000];
    private int told = 0;

    private Told(ChestnutCorner x) {
        this.x = x;
    }

    static int[] of(ChestnutCorner x) {
        Told t = new Told(x);
        t.state();
        for (int n : AHEAD) {
            t.tell(x.ahead(n, 0), x.ahead(n, 3), x.ahead(n, 5));
        }
        t.tell(x.text());
        t.state();
        for (int s = 0; s <= 3; s++) {
            t.tell(x.load(s));
            t.bags();
        }
        t.tell(x.undo());
        t.state();
        t.tell(x.tear());
        return t.row;
    }

    /** How often each finding was told: all of them, then BEYOND to SIZE. */
    static int[] statusOf(ChestnutCorner x) {
        int[] status = new int[8];
        for (int which = -1; which <= 6; which++) {
            status[1 + which] = x.status(which);
        }
        return status;
    }

    private void tell(int... answers) {
        for (int answer : answers) {
            row[told++] = answer;
        }
    }

    private void state() {
        for (int what = 0; what <= 8; what++) {
            tell(x.now(what), x.count(what));
        }
        int batches = x.count(0);
        for (int batch = 0; batch < batches; batch++) {
            for (int what = 0; what <= 4; what++) {
                tell(x.of(batch, what));
            }
        }
        int crowds = x.count(1);
        for (int crowd = 0; crowd < crowds; crowd++) {
            tell(x.crowdOf(crowd, 0), x.crowdOf(crowd, 1), x.crowdOf(crowd, 2));
        }
        for (int spot = 0; spot <= 9; spot++) {
            tell(x.as(spot, 0));
        }
    }

    private void bags() {
        int batches = x.count(0);
        for (int batch = 0; batch < batches; batch++) {
            tell(x.of(batch, 1));
        }
    }
}
