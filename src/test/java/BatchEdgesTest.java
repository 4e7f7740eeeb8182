/** The edges of promises 1 to 7: each sentence that names one, by itself. */
public final class BatchEdgesTest {
    private static final Due DUE = new Due("BatchEdgesTest");
    private static final Edge EVENING = new Edge(DUE, Scenes::evening);
    private static final Edge FULL = new Edge(DUE, Scenes::full);
    private static final Edge EMPTY = new Edge(DUE, Scenes::empty);

    public static void main(String[] args) {
        newObject();
        batchBeyond();
        batchFull();
        of();
        change();
        changeOfOneGone();
        putBeyond();
        putState();
        putFull();
        putFreesRoom();
        putOrder();
        putAge();
        putWasted();
        heats();
        how();
        howAges();
        howPlaces();
        DUE.end();
    }

    private static void newObject() {
        EMPTY.tells("1: the tape is empty", 0, ChestnutCorner::wipe);
        EMPTY.tells("1: no image is kept", 0, ChestnutCorner::tear);
        EMPTY.refused("1: no image to come back to", Due.NONE, ChestnutCorner::undo);
        EMPTY.refused("1: no batch", Due.BEYOND, x -> x.how(0));
        EMPTY.refused("1: no crowd", Due.BEYOND, x -> x.crowdOf(0, 0));
        EMPTY.tells("1: no shovel is due", 0, x -> x.now(8));
        EMPTY.tells("1: nor warms later", 4, x -> x.ahead(7, 3));
        for (int s = 0; s <= 3; s++) {
            int sheet = s;
            EMPTY.refused("1: sheet " + s + " is missing", Due.MISSING, x -> x.judge(sheet));
        }
        for (int i = 0; i <= 9; i++) {
            int spot = i;
            EMPTY.refused("1: spot " + i + " holds nothing", Due.MISSING, x -> x.as(spot, 0));
        }
        ChestnutCorner one = Scenes.evening();
        DUE.is("1: one object is not another", new ChestnutCorner().count(0), 0);
        DUE.is("1: and that one stays", one.count(0), 6);
    }

    private static void batchBeyond() {
        EVENING.range("2: kind", 0, 6, ChestnutCorner::batch);
        EVENING.tells("2: its number is the next", 6, x -> x.batch(0));
        EMPTY.tells("2: the first number is 0", 0, x -> x.batch(6));
        ChestnutCorner x = Scenes.evening();
        int batch = x.batch(4);
        int[] first = {4, 9, 0, 0, 0, 80, 105, 7};
        for (int what = 0; what <= 7; what++) {
            DUE.is("2: a new one's what " + what, x.of(batch, what), first[what]);
        }
    }

    private static void batchFull() {
        ChestnutCorner x = new ChestnutCorner();
        for (int i = 0; i < 9; i++) {
            x.batch(0);
        }
        DUE.is("2: the 10th", x.batch(0), 9);
        DUE.is("2: the 11th", x.batch(0), Due.FULL);
        FULL.refused("2: full", Due.FULL, y -> y.batch(0));
        FULL.refused("2: BEYOND is asked ahead of FULL: kind 7", Due.BEYOND, y -> y.batch(7));
        FULL.refused("2: BEYOND is asked ahead of FULL: kind -1", Due.BEYOND, y -> y.batch(-1));
        x.put(3, Due.GONE);
        DUE.is("2: one that is gone has its number yet", x.batch(0), Due.FULL);
    }

    private static void of() {
        EVENING.range("3: batch", 0, 5, (x, v) -> x.of(v, 0));
        EVENING.range("3: what", 0, 7, (x, v) -> x.of(0, v));
        FULL.range("3: batch of 10", 0, 9, (x, v) -> x.of(v, 7));
        EMPTY.refused("3: there is none", Due.BEYOND, x -> x.of(0, 0));
        for (int i = 0; i <= 7; i++) {
            int what = i;
            int[] want = {0, 5, 100, 2, Due.HEAP, 100, 140, 7};
            EVENING.asks("3: what " + what, want[what], x -> x.of(3, what));
        }
    }

    private static void change() {
        int[] most = {6, 9, 999, 999};
        for (int i = 0; i <= 3; i++) {
            int what = i;
            EVENING.range("4: what " + what + ", v", 0, most[what], (x, v) -> x.change(1, what, v));
        }
        EVENING.range("4: batch", 0, 5, (x, v) -> x.change(v, 1, 3));
        EVENING.range("4: what", 0, 3, (x, v) -> x.change(0, v, 0));
        EVENING.refused("4: its place is not changed so", Due.BEYOND, x -> x.change(0, 4, 1));
        EMPTY.refused("4: there is none", Due.BEYOND, x -> x.change(0, 0, 0));
        EVENING.asks("4: to what it was", 80 + 2 * 9, x -> x.change(1, 2, 80 + 2 * 9));
    }

    private static void changeOfOneGone() {
        ChestnutCorner x = Scenes.evening();
        DUE.is("4: bags of one that is gone", x.change(5, 1, 9), 0);
        DUE.is("4: it has them", x.of(5, 1), 9);
        DUE.is("4: it is gone all the same", x.how(5), 5);
    }

    private static void putBeyond() {
        EVENING.beyond("5: batch", 0, 5, (x, v) -> x.put(v, Due.RIM));
        EVENING.allowed("5: the first batch", x -> x.put(0, Due.RIM));
        FULL.allowed("5: the last batch", x -> x.put(9, Due.HEAP));
        EVENING.range("5: place", 1, 4, (x, v) -> x.put(0, v));
        EVENING.refused("5: not back into the sack", Due.BEYOND, x -> x.put(3, 0));
        EMPTY.refused("5: there is none", Due.BEYOND, x -> x.put(0, 1));
    }

    private static void putState() {
        for (int place = Due.PAN; place <= Due.GONE; place++) {
            int to = place;
            EVENING.refused("5: gone, to " + place, Due.STATE, x -> x.put(5, to));
        }
        EVENING.refused("5: in the pan", Due.STATE, x -> x.put(1, Due.PAN));
        EVENING.refused("5: on the rim", Due.STATE, x -> x.put(2, Due.RIM));
        EVENING.refused("5: on the heap", Due.STATE, x -> x.put(3, Due.HEAP));
    }

    private static void putFull() {
        FULL.refused("5: a third in the pan", Due.FULL, x -> x.put(6, Due.PAN));
        FULL.refused("5: a third in the pan, from the rim", Due.FULL, x -> x.put(5, Due.PAN));
        FULL.refused("5: a fifth on the rim", Due.FULL, x -> x.put(6, Due.RIM));
        FULL.refused("5: a fifth on the rim, from the pan", Due.FULL, x -> x.put(0, Due.RIM));
        FULL.tells("5: the heap is never full", 0, x -> x.put(6, Due.HEAP));
        FULL.tells("5: nor is what is gone", 0, x -> x.put(6, Due.GONE));
        ChestnutCorner x = new ChestnutCorner();
        for (int i = 0; i < 10; i++) {
            x.batch(0);
        }
        DUE.is("5: the first in the pan", x.put(0, Due.PAN), 0);
        DUE.is("5: the second in the pan", x.put(9, Due.PAN), 0);
        DUE.is("5: the third in the pan", x.put(8, Due.PAN), Due.FULL);
        for (int i = 1; i <= 4; i++) {
            DUE.is("5: on the rim: " + i, x.put(i, Due.RIM), 0);
        }
        DUE.is("5: on the rim: 5", x.put(5, Due.RIM), Due.FULL);
        for (int i = 0; i < 10; i++) {
            x.put(i, Due.GONE);
        }
        DUE.is("5: all are gone", x.at(Due.GONE), 1023);
    }

    private static void putFreesRoom() {
        ChestnutCorner x = Scenes.full();
        x.put(0, Due.HEAP);
        DUE.is("5: room when one is on the heap", x.put(2, Due.PAN), Due.RIM);
        DUE.is("5: and room on the rim then", x.put(6, Due.RIM), 0);
        x.put(1, Due.GONE);
        DUE.is("5: room when one is gone", x.put(7, Due.PAN), 0);
        DUE.is("5: full again", x.put(8, Due.PAN), Due.FULL);
    }

    private static void putOrder() {
        FULL.refused("5: BEYOND is asked ahead of FULL", Due.BEYOND, x -> x.put(10, Due.PAN));
        FULL.refused("5: STATE, there, is asked ahead of FULL: pan", Due.STATE, x -> x.put(0, Due.PAN));
        FULL.refused("5: STATE, there, is asked ahead of FULL: rim", Due.STATE, x -> x.put(2, Due.RIM));
        Edge gone = new Edge(DUE, () -> {
            ChestnutCorner x = Scenes.full();
            x.put(9, Due.GONE);
            return x;
        });
        gone.refused("5: STATE, gone, is asked ahead of FULL: pan", Due.STATE, x -> x.put(9, Due.PAN));
        gone.refused("5: STATE, gone, is asked ahead of FULL: rim", Due.STATE, x -> x.put(9, Due.RIM));
        gone.refused("5: BEYOND is asked ahead of STATE: place 0", Due.BEYOND, x -> x.put(9, 0));
        gone.refused("5: BEYOND is asked ahead of STATE: place 5", Due.BEYOND, x -> x.put(9, 5));
    }

    private static void putAge() {
        for (int place = Due.PAN; place <= Due.GONE; place++) {
            ChestnutCorner x = Due.told("nut");
            x.change(0, 3, 5);
            x.put(0, place);
            DUE.is("5: age at place " + place, x.of(0, 3), place == Due.HEAP ? 0 : 5);
        }
    }

    private static void putWasted() {
        for (int place = Due.PAN; place <= Due.GONE; place++) {
            ChestnutCorner x = Due.told("nut");
            x.put(0, place);
            boolean gone = place == Due.GONE;
            DUE.is("5: bags at place " + place, x.of(0, 1), gone ? 0 : 9);
            DUE.is("5: wasted at place " + place, x.now(6), gone ? 9 : 0);
        }
        ChestnutCorner none = Due.told("nut;nut");
        none.change(0, 1, 0);
        none.put(0, Due.GONE);
        DUE.is("5: no bags are no waste", none.now(6), 0);
        none.put(1, Due.GONE);
        DUE.is("5: wasted of the other one", none.now(6), 9);
    }

    private static void heats() {
        EVENING.range("6: h", 0, 20, (x, v) -> x.heats(0, v));
        EVENING.range("6: batch", 0, 5, (x, v) -> x.heats(v, 0));
        EMPTY.refused("6: there is none", Due.BEYOND, x -> x.heats(0, 0));
        EVENING.asks("6: at a heat that is not the fire's", 20, x -> x.heats(0, 20));
        EVENING.asks("6: of one that is gone", 10, x -> x.heats(5, 20));
    }

    private static void how() {
        EVENING.range("7: batch", 0, 5, ChestnutCorner::how);
        EMPTY.refused("7: there is none", Due.BEYOND, x -> x.how(0));
        EVENING.asks("7: not ready", 0, x -> x.how(0));
        EVENING.asks("7: good", 1, x -> x.how(4));
        EVENING.asks("7: gone", 5, x -> x.how(5));
        int[] ready = {100, 130, 80, 140, 80, 100, 100};
        int[] burnt = {140, 170, 105, 180, 105, 140, 140};
        for (int kind = 0; kind <= 6; kind++) {
            howRoast(kind, 0, 0);
            howRoast(kind, ready[kind] - 1, 0);
            howRoast(kind, ready[kind], 1);
            howRoast(kind, burnt[kind] - 1, 1);
            howRoast(kind, burnt[kind], 4);
            howRoast(kind, 999, 4);
        }
    }

    private static void howRoast(int kind, int roast, int want) {
        ChestnutCorner x = new ChestnutCorner();
        x.batch(kind);
        x.change(0, 2, roast);
        DUE.is("7: kind " + kind + " with roast " + roast, x.how(0), want);
    }

    private static void howAges() {
        int[] ages = {0, 10, 11, 25, 26, 999};
        int[] ready = {1, 1, 2, 2, 3, 3};
        for (int i = 0; i < ages.length; i++) {
            ChestnutCorner x = Due.told("nut roast 99 heap;nut roast 100 heap;nut roast 139 heap;nut roast 140 heap");
            for (int batch = 0; batch < 4; batch++) {
                x.change(batch, 3, ages[i]);
            }
            DUE.is("7: not ready, of age " + ages[i], x.how(0), 0);
            DUE.is("7: just ready, of age " + ages[i], x.how(1), ready[i]);
            DUE.is("7: not yet burnt, of age " + ages[i], x.how(2), ready[i]);
            DUE.is("7: burnt, of age " + ages[i], x.how(3), 4);
        }
    }

    private static void howPlaces() {
        for (int place = 0; place <= Due.GONE; place++) {
            ChestnutCorner x = Due.told("nut;nut roast 100;nut roast 100;nut roast 100;nut roast 140");
            // AGE is 0 on the heap at first: what is older there is made so behind it.
            int[] ages = {0, 10, 11, 26, 0};
            int[] want = {0, 1, 2, 3, 4};
            for (int batch = 0; batch < 5; batch++) {
                x.put(batch, place);
                x.change(batch, 3, ages[batch]);
                DUE.is("7: batch " + batch + " at place " + place, x.how(batch), place == Due.GONE ? 5 : want[batch]);
                x.put(batch, Due.GONE);
            }
        }
    }
}
