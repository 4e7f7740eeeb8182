/** Promises 1 to 7: a new object, and the batches. */
public final class BatchesTest {
    private static final Due DUE = new Due("BatchesTest");

    public static void main(String[] args) {
        newObject();
        batch();
        of();
        change();
        put();
        putFull();
        heats();
        how();
        DUE.end();
    }

    private static void newObject() {
        ChestnutCorner x = new ChestnutCorner();
        int[] counts = {0, 0, 0, 0, 4, 5, 0, 1, 0};
        for (int what = 0; what < counts.length; what++) {
            DUE.is("1: count(" + what + ")", x.count(what), counts[what]);
        }
        int[] nows = {0, 0, 5, 0, 0, 0, 0, 0, 0};
        for (int what = 0; what < nows.length; what++) {
            DUE.is("1: now(" + what + ")", x.now(what), nows[what]);
        }
        for (int which = -1; which <= 6; which++) {
            DUE.is("1: status(" + which + ")", x.status(which), 0);
        }
        for (int place = 0; place <= 4; place++) {
            DUE.is("1: at(" + place + ")", x.at(place), 0);
        }
        DUE.is("1: wipe()", x.wipe(), 0);
        DUE.is("1: undo()", x.undo(), Due.NONE);
        DUE.is("1: tear()", x.tear(), 0);
        for (int spot = 0; spot <= 9; spot++) {
            DUE.is("1: as(" + spot + ", 0)", x.as(spot, 0), Due.MISSING);
        }
        for (int s = 0; s <= 3; s++) {
            DUE.is("1: load(" + s + ")", x.load(s), Due.MISSING);
        }
    }

    private static void batch() {
        ChestnutCorner x = new ChestnutCorner();
        DUE.is("2: batch(-1)", x.batch(-1), Due.BEYOND);
        DUE.is("2: batch(7)", x.batch(7), Due.BEYOND);
        for (int i = 0; i < 10; i++) {
            DUE.is("2: batch", x.batch(i % 7), i);
            DUE.is("2: its kind", x.of(i, 0), i % 7);
        }
        DUE.is("2: BEYOND is asked ahead of FULL", x.batch(7), Due.BEYOND);
        DUE.is("2: an 11th", x.batch(0), Due.FULL);
        DUE.is("2: no more than 10", x.count(0), 10);
    }

    private static void of() {
        ChestnutCorner x = new ChestnutCorner();
        x.rule(1, 5);
        int[] ready = {100, 130, 80, 140, 80, 100, 100};
        int[] burnt = {140, 170, 105, 180, 105, 140, 140};
        int[] worth = {5, 5, 5, 7, 5, 3, 1};
        int[] cheap = {1, 1, 1, 3, 1, 0, 0};
        for (int kind = 0; kind <= 6; kind++) {
            x.batch(kind);
            DUE.is("3: KIND", x.of(kind, 0), kind);
            DUE.is("3: BAGS", x.of(kind, 1), 9);
            DUE.is("3: ROAST", x.of(kind, 2), 0);
            DUE.is("3: AGE", x.of(kind, 3), 0);
            DUE.is("3: PLACE", x.of(kind, 4), 0);
            DUE.is("3: READY of " + kind, x.of(kind, 5), ready[kind]);
            DUE.is("3: BURNT of " + kind, x.of(kind, 6), burnt[kind]);
            DUE.is("3: WORTH of " + kind, x.of(kind, 7), worth[kind]);
        }
        x.rule(1, 1);
        for (int kind = 0; kind <= 6; kind++) {
            DUE.is("3: WORTH at 1 of " + kind, x.of(kind, 7), cheap[kind]);
        }
        int[] prices = {0, 2, 4, 5, 6, 9, 99};
        int[] old = {0, 0, 1, 1, 2, 3, 48};
        for (int i = 0; i < prices.length; i++) {
            x.rule(1, prices[i]);
            DUE.is("3: WORTH of an old one at " + prices[i], x.of(Due.OLD, 7), old[i]);
        }
        DUE.is("3: of(-1, 0)", x.of(-1, 0), Due.BEYOND);
        DUE.is("3: of(7, 0)", x.of(7, 0), Due.BEYOND);
        DUE.is("3: of(0, -1)", x.of(0, -1), Due.BEYOND);
        DUE.is("3: of(0, 8)", x.of(0, 8), Due.BEYOND);
    }

    private static void change() {
        ChestnutCorner x = new ChestnutCorner();
        x.batch(Due.RAW);
        int[] first = {Due.RAW, 9, 0, 0};
        int[] most = {6, 9, 999, 999};
        for (int what = 0; what <= 3; what++) {
            DUE.is("4: change to the most", x.change(0, what, most[what]), first[what]);
            DUE.is("4: above the most", x.change(0, what, most[what] + 1), Due.BEYOND);
            DUE.is("4: below 0", x.change(0, what, -1), Due.BEYOND);
            DUE.is("4: as changed", x.of(0, what), most[what]);
            DUE.is("4: change to 0", x.change(0, what, 0), most[what]);
            DUE.is("4: is 0", x.of(0, what), 0);
        }
        DUE.is("4: what -1", x.change(0, -1, 0), Due.BEYOND);
        DUE.is("4: what 4", x.change(0, 4, 0), Due.BEYOND);
        DUE.is("4: no such batch", x.change(1, 0, 0), Due.BEYOND);
        DUE.is("4: batch -1", x.change(-1, 0, 0), Due.BEYOND);
        x.put(0, Due.GONE);
        DUE.is("4: one that is gone", x.change(0, 1, 3), 0);
        DUE.is("4: its bags count", x.count(2), 3);
        DUE.is("4: but are not left", x.ahead(0, 5), 0);
    }

    private static void put() {
        ChestnutCorner x = new ChestnutCorner();
        x.batch(0);
        DUE.is("5: place 0", x.put(0, 0), Due.BEYOND);
        DUE.is("5: place 5", x.put(0, 5), Due.BEYOND);
        DUE.is("5: no such batch", x.put(1, 1), Due.BEYOND);
        DUE.is("5: batch -1", x.put(-1, 1), Due.BEYOND);
        DUE.is("5: from the sack", x.put(0, Due.PAN), 0);
        DUE.is("5: there", x.put(0, Due.PAN), Due.STATE);
        DUE.is("5: from the pan", x.put(0, Due.RIM), Due.PAN);
        x.change(0, 3, 7);
        DUE.is("5: from the rim", x.put(0, Due.HEAP), Due.RIM);
        DUE.is("5: age is 0 on the heap", x.of(0, 3), 0);
        x.minutes(2);
        DUE.is("5: back into the pan", x.put(0, Due.PAN), Due.HEAP);
        DUE.is("5: age stays elsewhere", x.of(0, 3), 2);
        x.change(0, 1, 4);
        DUE.is("5: away", x.put(0, Due.GONE), Due.PAN);
        DUE.is("5: bags are 0", x.of(0, 1), 0);
        DUE.is("5: and wasted", x.now(6), 4);
        DUE.is("5: it is gone", x.put(0, Due.PAN), Due.STATE);
        DUE.is("5: gone already", x.put(0, Due.GONE), Due.STATE);
        x.batch(0);
        DUE.is("5: another one, out of the sack", x.put(1, Due.GONE), 0);
        DUE.is("5: wasted ever", x.now(6), 4 + 9);
        DUE.is("5: BEYOND is asked ahead of STATE", x.put(0, 0), Due.BEYOND);
    }

    private static void putFull() {
        ChestnutCorner x = new ChestnutCorner();
        for (int i = 0; i < 10; i++) {
            x.batch(0);
        }
        DUE.is("5: first in the pan", x.put(0, Due.PAN), 0);
        DUE.is("5: second in the pan", x.put(1, Due.PAN), 0);
        DUE.is("5: third in the pan", x.put(2, Due.PAN), Due.FULL);
        DUE.is("5: STATE is asked ahead of FULL", x.put(1, Due.PAN), Due.STATE);
        for (int i = 2; i < 6; i++) {
            DUE.is("5: on the rim", x.put(i, Due.RIM), 0);
        }
        DUE.is("5: fifth on the rim", x.put(6, Due.RIM), Due.FULL);
        DUE.is("5: it stays", x.of(6, 4), 0);
        for (int i = 0; i < 10; i++) {
            DUE.holds("5: the heap has room", x.put(i, Due.HEAP) >= 0);
        }
        DUE.is("5: all on the heap", x.at(Due.HEAP), 1023);
    }

    private static void heats() {
        ChestnutCorner x = new ChestnutCorner();
        int[] at0 = {0, 0, 0, 0, 0, 0, 0};
        int[] at1 = {1, 0, 2, 0, 2, 1, 0};
        int[] at9 = {9, 8, 10, 8, 10, 9, 4};
        int[] at20 = {20, 19, 21, 19, 21, 20, 10};
        for (int kind = 0; kind <= 6; kind++) {
            x.batch(kind);
            DUE.is("6: at 0 of " + kind, x.heats(kind, 0), at0[kind]);
            DUE.is("6: at 1 of " + kind, x.heats(kind, 1), at1[kind]);
            DUE.is("6: at 9 of " + kind, x.heats(kind, 9), at9[kind]);
            DUE.is("6: at 20 of " + kind, x.heats(kind, 20), at20[kind]);
        }
        DUE.is("6: at -1", x.heats(0, -1), Due.BEYOND);
        DUE.is("6: at 21", x.heats(0, 21), Due.BEYOND);
        DUE.is("6: no such batch", x.heats(7, 1), Due.BEYOND);
        DUE.is("6: batch -1", x.heats(-1, 1), Due.BEYOND);
    }

    private static void how() {
        ChestnutCorner x = new ChestnutCorner();
        x.batch(Due.SMALL);
        how(x, 79, 0, 0);
        how(x, 79, 30, 0);
        how(x, 80, 0, 1);
        how(x, 104, 10, 1);
        how(x, 104, 11, 2);
        how(x, 80, 25, 2);
        how(x, 80, 26, 3);
        how(x, 105, 0, 4);
        how(x, 105, 26, 4);
        x.put(0, Due.GONE);
        how(x, 80, 0, 5);
        how(x, 999, 0, 5);
        DUE.is("7: no such batch", x.how(1), Due.BEYOND);
        DUE.is("7: batch -1", x.how(-1), Due.BEYOND);
    }

    private static void how(ChestnutCorner x, int roast, int age, int want) {
        x.change(0, 2, roast);
        x.change(0, 3, age);
        DUE.is("7: how at roast " + roast + ", age " + age, x.how(0), want);
    }
}
