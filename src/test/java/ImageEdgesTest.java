/** The edges of promises 43 to 47: each sentence that names one, by itself. */
public final class ImageEdgesTest {
    private static final Due DUE = new Due("ImageEdgesTest");
    private static final Edge EVENING = new Edge(DUE, Scenes::evening);
    private static final Edge FULL = new Edge(DUE, Scenes::full);
    private static final Edge EMPTY = new Edge(DUE, Scenes::empty);

    public static void main(String[] args) {
        image();
        undo();
        undoTakesAllBack();
        undoAll();
        tear();
        count();
        status();
        statusCounts();
        statusOfNoFindings();
        DUE.end();
    }

    private static void image() {
        EMPTY.tells("43: kept", 1, ChestnutCorner::image);
        FULL.tells("43: kept", 1, ChestnutCorner::image);
        ChestnutCorner x = Scenes.evening();
        x.image();
        DUE.is("43: nothing changes by it", x.count(4), 7);
        x.rule(1, 1);
        x.undo();
        DUE.is("43: what is kept later counts", x.count(4), 7);
    }

    private static void undo() {
        EMPTY.refused("44: nothing is kept", Due.NONE, ChestnutCorner::undo);
        FULL.refused("44: nothing is kept", Due.NONE, ChestnutCorner::undo);
        EVENING.tells("44: MINUTE", 2, ChestnutCorner::undo);
        Edge torn = new Edge(DUE, () -> {
            ChestnutCorner x = Scenes.evening();
            x.tear();
            return x;
        });
        torn.refused("44: nothing is kept any more", Due.NONE, ChestnutCorner::undo);
        Edge just = new Edge(DUE, () -> {
            ChestnutCorner x = Scenes.eveningAt(999);
            x.image();
            return x;
        });
        just.asks("44: MINUTE 999, nothing having changed", 999, ChestnutCorner::undo);
    }

    /** Batches and crowds that are new since are no more, and their numbers are free. */
    private static void undoTakesAllBack() {
        ChestnutCorner x = new ChestnutCorner();
        x.image();
        for (int i = 0; i < 10; i++) {
            x.batch(4);
        }
        for (int i = 0; i < 12; i++) {
            x.crowd(1, 1, 1);
        }
        x.hold(0, 9);
        DUE.is("44: back at the begin", x.undo(), 0);
        DUE.is("44: no batch", x.how(0), Due.BEYOND);
        DUE.is("44: no crowd", x.crowdOf(0, 0), Due.BEYOND);
        DUE.is("44: no spot holds one", x.as(0, 0), Due.MISSING);
        DUE.is("44: the next batch is the first one", x.batch(6), 0);
        DUE.is("44: as new", x.of(0, 1), 9);
        DUE.is("44: the next crowd is the first one", x.crowd(0, 0, 0), 0);
    }

    /** What is kept is no part of what goes on: two objects, one of which has gone on and come back. */
    private static void undoAll() {
        ChestnutCorner x = Scenes.evening();
        ChestnutCorner same = Scenes.evening();
        x.image();
        same.image();
        x.crowd(0, 30, 400);
        x.minutes(40);
        x.put(1, Due.GONE);
        x.put(2, Due.HEAP);
        x.batch(3);
        x.crowd(1, 2, 3);
        x.late(0, 1, 50);
        x.late(0, 2, 60);
        x.change(3, 0, 4);
        x.change(3, 1, 3);
        x.change(3, 2, 2);
        x.change(3, 3, 1);
        x.rule(0, 20);
        x.rule(1, 1);
        x.rule(2, 1);
        x.shovel(9);
        x.walk(3);
        x.boys(3);
        x.hold(3, -1);
        x.hold(0, 0);
        DUE.is("44: it comes back", x.undo(), 2);
        DUE.same("44: all of it,", Told.of(x), Told.of(same));
        ChestnutCorner y = Scenes.evening();
        y.rule(1, 9);
        y.image();
        y.walk(3);
        y.shovel(4);
        y.undo();
        DUE.is("44: it doesn't walk", y.now(4), 0);
        DUE.is("44: shovels are due as they were", y.now(8), 3);
        DUE.is("44: and again", y.undo(), 2);
    }

    private static void tear() {
        EMPTY.asks("45: nothing was", 0, ChestnutCorner::tear);
        EVENING.tells("45: something was", 1, ChestnutCorner::tear);
        ChestnutCorner x = Scenes.evening();
        x.image();
        x.image();
        DUE.is("45: something was", x.tear(), 1);
        DUE.is("45: all of it is torn", x.tear(), 0);
        DUE.is("45: nothing else changes", x.count(4), 7);
    }

    private static void count() {
        EVENING.range("46: what", 0, 8, ChestnutCorner::count);
        int[] evening = {6, 2, 38, 39, 7, 8, 6, -77, 2};
        int[] full = {10, 12, 90, 660, 4, 5, 120, 1, 0};
        int[] empty = {0, 0, 0, 0, 4, 5, 0, 1, 0};
        for (int i = 0; i <= 8; i++) {
            int what = i;
            EVENING.asks("46: what " + i, evening[i], x -> x.count(what));
            FULL.asks("46: what " + i + " of a full one", full[i], x -> x.count(what));
            EMPTY.asks("46: what " + i + " of an empty one", empty[i], x -> x.count(what));
        }
        ChestnutCorner x = Scenes.full();
        for (int i = 0; i < 12; i++) {
            x.late(i, 2, 400);
        }
        DUE.is("46: as many as can be", x.count(3), 4800);
        x.change(9, 1, 0);
        DUE.is("46: bags of all but one", x.count(2), 81);
    }

    private static void status() {
        EVENING.range("47: which", -1, 6, ChestnutCorner::status);
        EMPTY.range("47: which", -1, 6, ChestnutCorner::status);
        ChestnutCorner x = new ChestnutCorner();
        DUE.is("47: above", x.status(7), Due.BEYOND);
        DUE.is("47: counted from then on", x.status(0), 1);
        DUE.is("47: below", x.status(-2), Due.BEYOND);
        DUE.is("47: counted from then on", x.status(0), 2);
        DUE.is("47: all", x.status(-1), 2);
        DUE.is("47: asking is no finding", x.status(-1), 2);
    }

    private static void statusCounts() {
        ChestnutCorner x = Scenes.full();
        x.feed(0, 1);
        x.batch(0);
        x.crowd(0, 0, 0);
        x.put(6, Due.PAN);
        x.hold(0, 1);
        x.as(0, 2);
        x.undo();
        x.ready(6);
        x.put(0, Due.PAN);
        x.load(0);
        x.write(1, 0, 0);
        x.as(1, 0);
        x.sheet(0, 0, -1);
        x.sheet(0, 0, 41);
        int[] want = {13, 1, 4, 1, 2, 1, 3, 1};
        DUE.same("47: from -1 on,", Told.statusOf(x), want);
        x.image();
        x.undo();
        x.tear();
        DUE.same("47: undo takes none back, from -1 on,", Told.statusOf(x), want);
    }

    /** z, a FAULT and all other answers below 0 are no findings. */
    private static void statusOfNoFindings() {
        ChestnutCorner x = new ChestnutCorner();
        for (int z : new int[] {Due.BEYOND, Due.FULL, Due.KIND, Due.NONE, Due.STATE, Due.MISSING, Due.SIZE}) {
            x.seed(z);
            DUE.is("47: count(7) tells no finding", x.count(7), z);
        }
        x.seed(0);
        Due.feed(x, "nut;;");
        DUE.is("47: a fault", x.text(), -5);
        DUE.is("47: is no finding", x.status(-1), 0);
    }
}
