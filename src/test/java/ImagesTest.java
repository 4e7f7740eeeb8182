/** Promises 43 to 47: images, counts, status. */
public final class ImagesTest {
    private static final Due DUE = new Due("ImagesTest");

    public static void main(String[] args) {
        undo();
        undoLeavesTapeAndSheets();
        undoStays();
        tear();
        count();
        status();
        statusKinds();
        DUE.end();
    }

    /** All that can be asked of the state, as one number in a row each. */
    private static int[] told(ChestnutCorner x) {
        int[] row = new int[200];
        int n = 0;
        for (int what = 0; what <= 8; what++) {
            row[n++] = x.now(what);
            row[n++] = what == 6 ? 0 : x.count(what);
        }
        for (int batch = 0; batch < x.count(0); batch++) {
            for (int what = 0; what <= 4; what++) {
                row[n++] = x.of(batch, what);
            }
        }
        for (int crowd = 0; crowd < x.count(1); crowd++) {
            for (int what = 0; what <= 2; what++) {
                row[n++] = x.crowdOf(crowd, what);
            }
        }
        row[n++] = x.ahead(7, 3);
        return row;
    }

    private static ChestnutCorner busy() {
        ChestnutCorner x = Due.told("nut roast 100 heap;raw pan;sweet rim;crowd 40 at 0 minute 1;"
                + "crowd 3 at 1 minute 9;heat 7;price 9;cold 3");
        x.minutes(3);
        x.batch(Due.OLD);
        x.put(3, Due.GONE);
        x.hold(2, 1);
        x.seed(77);
        x.shovel(2);
        x.walk(2);
        x.minutes(2);
        return x;
    }

    private static void undo() {
        ChestnutCorner x = busy();
        DUE.is("43: image", x.image(), 1);
        int[] before = told(x);
        x.change(0, 0, Due.LARGE);
        x.change(0, 1, 1);
        x.change(0, 2, 1);
        x.change(0, 3, 1);
        x.put(1, Due.RIM);
        x.put(2, Due.GONE);
        x.batch(0);
        x.rule(0, 1);
        x.rule(1, 1);
        x.rule(2, 1);
        x.late(0, 1, 7);
        x.late(0, 2, 7);
        x.crowd(1, 1, 1);
        x.hold(2, -1);
        x.hold(3, 0);
        x.seed(1);
        x.shovel(9);
        x.minutes(9);
        x.walk(3);
        DUE.is("44: undo tells MINUTE", x.undo(), 5);
        int[] after = told(x);
        for (int i = 0; i < before.length; i++) {
            DUE.is("44: as it was, row " + i, after[i], before[i]);
        }
        DUE.is("44: the spot", x.as(2, 0), 1);
        DUE.is("44: the other spot", x.as(3, 0), Due.MISSING);
    }

    private static void undoLeavesTapeAndSheets() {
        ChestnutCorner x = Due.told("nut;nut");
        x.image();
        x.feed('a', 1);
        x.sheet(0, 8, 1);
        x.write(0, 0, 3);
        x.batch(9);
        DUE.is("44: undo", x.undo(), 0);
        DUE.is("44: the tape stays", x.count(6), 1);
        DUE.is("44: the sheet stays", x.load(0), 1);
        DUE.is("44: the sheet stays", x.of(0, 1), 3);
        DUE.is("44: findings stay", x.status(-1), 1);
    }

    private static void undoStays() {
        ChestnutCorner x = new ChestnutCorner();
        DUE.is("44: nothing is kept", x.undo(), Due.NONE);
        x.minutes(3);
        x.image();
        x.minutes(3);
        x.image();
        x.minutes(3);
        DUE.is("44: what was kept latest", x.undo(), 6);
        x.minutes(1);
        DUE.is("44: which stays", x.undo(), 6);
        DUE.is("44: which stays", x.now(0), 6);
    }

    private static void tear() {
        ChestnutCorner x = new ChestnutCorner();
        DUE.is("45: nothing", x.tear(), 0);
        x.image();
        x.image();
        DUE.is("45: something", x.tear(), 1);
        DUE.is("45: nothing is kept", x.undo(), Due.NONE);
        DUE.is("45: nothing again", x.tear(), 0);
        x.image();
        DUE.is("45: kept anew", x.undo(), 0);
    }

    private static void count() {
        ChestnutCorner x = Due.told("nut;large;crowd 40 at 0 minute 1;crowd 3 at 1 minute 9;price 9;cold 3");
        x.change(0, 1, 2);
        x.feed(0, 3);
        x.seed(Integer.MIN_VALUE);
        x.hold(1, 1);
        int[] want = {2, 2, 11, 43, 9, 3, 3, Integer.MIN_VALUE, 1};
        for (int what = 0; what < want.length; what++) {
            DUE.is("46: count(" + what + ")", x.count(what), want[what]);
        }
        DUE.is("46: what -1", x.count(-1), Due.BEYOND);
        DUE.is("46: what 9", x.count(9), Due.BEYOND);
        DUE.is("46: z is no finding", x.status(-1), 2);
    }

    private static void status() {
        ChestnutCorner x = new ChestnutCorner();
        DUE.is("47: which 7", x.status(7), Due.BEYOND);
        DUE.is("47: counted from then on", x.status(0), 1);
        DUE.is("47: which -2", x.status(-2), Due.BEYOND);
        DUE.is("47: counted from then on", x.status(-1), 2);
        x.image();
        x.undo();
        DUE.is("47: undo takes none back", x.status(-1), 2);
        x.seed(Due.BEYOND);
        x.seed(Due.STATE);
        DUE.is("47: seed tells no finding", x.status(-1), 2);
    }

    private static void statusKinds() {
        ChestnutCorner x = new ChestnutCorner();
        x.batch(9);
        for (int i = 0; i < 12; i++) {
            x.batch(0);
        }
        x.hold(0, 0);
        for (int i = 0; i < 3; i++) {
            x.as(0, 1);
        }
        for (int i = 0; i < 4; i++) {
            x.undo();
        }
        x.put(0, 1);
        for (int i = 0; i < 5; i++) {
            x.put(0, 1);
        }
        for (int i = 0; i < 6; i++) {
            x.load(0);
        }
        for (int i = 0; i < 7; i++) {
            x.sheet(0, 8, -1);
        }
        for (int which = 0; which <= 6; which++) {
            DUE.is("47: status(" + which + ")", x.status(which), which + 1);
        }
        DUE.is("47: all", x.status(-1), 28);
    }
}
