/** The edges of promises 14 to 19: each sentence that names one, by itself. */
public final class MinuteEdgesTest {
    private static final Due DUE = new Due("MinuteEdgesTest");
    private static final Edge EVENING = new Edge(DUE, Scenes::evening);
    private static final Edge FULL = new Edge(DUE, Scenes::full);
    private static final Edge EMPTY = new Edge(DUE, Scenes::empty);
    private static final Edge WALKING = new Edge(DUE, Scenes::walking);
    private static final Edge LAST = new Edge(DUE, () -> Scenes.eveningAt(999));

    public static void main(String[] args) {
        minutes();
        minutesState();
        now();
        at();
        ahead();
        aheadState();
        aheadSets();
        aheadSetOfAll();
        aheadBags();
        aheadLost();
        aheadOfWalks();
        ready();
        readyEdges();
        burnt();
        burntEdges();
        state();
        farthest();
        DUE.end();
    }

    private static void minutes() {
        EVENING.range("14: n", 1, 120, ChestnutCorner::minutes);
        EMPTY.tells("14: none is sold", 0, x -> x.minutes(1));
        ChestnutCorner x = Scenes.evening();
        x.minutes(1);
        DUE.is("14: one goes", x.now(0), Scenes.EVENING + 1);
        x.minutes(120);
        DUE.is("14: 120 go", x.now(0), Scenes.EVENING + 121);
        ChestnutCorner y = Due.told("nut roast 100 heap;crowd 4 at 0 minute 0;crowd 8 at 0 minute 1");
        DUE.is("14: sold in it", y.minutes(1), 2);
        DUE.is("14: sold in it, not ever", y.minutes(1), 4);
        DUE.is("14: sold ever", y.now(5), 6);
    }

    private static void minutesState() {
        int[] ns = {1, 2, 119, 120};
        for (int n : ns) {
            Edge fits = new Edge(DUE, () -> Scenes.eveningAt(999 - n));
            fits.allowed("14: " + n + " to 999", x -> x.minutes(n));
            Edge above = new Edge(DUE, () -> Scenes.eveningAt(1000 - n));
            above.refused("14: " + n + " to 1000", Due.STATE, x -> x.minutes(n));
        }
        LAST.beyond("14: BEYOND is asked ahead of STATE: n", 1, 120, ChestnutCorner::minutes);
    }

    private static void now() {
        EVENING.range("15: what", 0, 8, ChestnutCorner::now);
        // In MINUTE 1 four of the nine came and bought; the old ones were put away; three shovels are due.
        int[] want = {2, 16, 9, 0, 0, 4, 9, 0, 3};
        for (int i = 0; i <= 8; i++) {
            int what = i;
            EVENING.asks("15: what " + i, want[i], x -> x.now(what));
        }
        WALKING.asks("15: minutes that it walks yet", 6, x -> x.now(4));
        WALKING.asks("15: the corner to which it walks", 2, x -> x.now(3));
    }

    private static void at() {
        EVENING.range("16: place", 0, 4, ChestnutCorner::at);
        int[] want = {1, 2, 4, 8 | 16, 32};
        for (int i = 0; i <= 4; i++) {
            int place = i;
            EVENING.asks("16: place " + i, want[i], x -> x.at(place));
            EMPTY.asks("16: none at place " + i, 0, x -> x.at(place));
        }
        FULL.asks("16: the first ones in the pan", 3, x -> x.at(Due.PAN));
        FULL.asks("16: the last ones in the sack", 0b1111000000, x -> x.at(0));
    }

    private static void ahead() {
        EVENING.range("17: n", 0, 200, (x, v) -> x.ahead(v, 0));
        EVENING.range("17: what", 0, 11, (x, v) -> x.ahead(0, v));
        FULL.range("17: what with 10 batches", 0, 15, (x, v) -> x.ahead(200, v));
        EMPTY.range("17: what with none", 0, 5, (x, v) -> x.ahead(200, v));
        EMPTY.refused("17: there is none", Due.BEYOND, x -> x.ahead(0, 6));
        int[] none = {0, 0, 0, 9, 0, 38, 0, 98, 40, 100, 150, 0};
        int[] one = {0, 0, 0, 9, 2, 38, 0, 107, 45, 100, 150, 0};
        for (int i = 0; i < none.length; i++) {
            int what = i;
            EVENING.asks("17: none ahead, what " + i, none[i], x -> x.ahead(0, what));
            EVENING.asks("17: one ahead, what " + i, one[i], x -> x.ahead(1, what));
        }
    }

    private static void aheadState() {
        int[] ns = {0, 1, 199, 200};
        for (int n : ns) {
            Edge fits = new Edge(DUE, () -> Scenes.eveningAt(999 - n));
            fits.allowed("17: " + n + " to 999", x -> x.ahead(n, 0));
        }
        for (int n : new int[] {1, 2, 200}) {
            Edge above = new Edge(DUE, () -> Scenes.eveningAt(1000 - n));
            above.refused("17: " + n + " to 1000", Due.STATE, x -> x.ahead(n, 0));
        }
        LAST.beyond("17: BEYOND is asked ahead of STATE: n", 0, 200, (x, v) -> x.ahead(v, 0));
        LAST.beyond("17: BEYOND is asked ahead of STATE: what", 0, 11, (x, v) -> x.ahead(1, v));
        LAST.refused("17: BEYOND, no such batch, is asked ahead of STATE", Due.BEYOND, x -> x.ahead(1, 12));
    }

    private static void aheadSets() {
        int[] places = {0, Due.PAN, Due.RIM, Due.HEAP, Due.GONE};
        int[] roasts = {99, 100, 139, 140};
        for (int place : places) {
            for (int i = 0; i < roasts.length; i++) {
                ChestnutCorner x = Due.told("nut;nut;heat 0");
                x.change(1, 2, roasts[i]);
                if (place > 0) {
                    x.put(1, place);
                }
                boolean over = place == Due.PAN || place == Due.RIM;
                DUE.is("17: done, with " + roasts[i] + " at place " + place, x.ahead(3, 4),
                        over && (i == 1 || i == 2) ? 2 : 0);
            }
        }
    }

    private static void aheadSetOfAll() {
        ChestnutCorner x = Scenes.full();
        x.rule(0, 0);
        for (int batch = 0; batch < 10; batch++) {
            x.change(batch, 0, Due.NUT);
            x.change(batch, 2, 139);
        }
        DUE.is("17: all in the pan and on the rim are done", x.ahead(0, 4), 0b111111);
        x.change(0, 2, 99);
        x.change(4, 2, 140);
        DUE.is("17: one is not ready, one is burnt", x.ahead(200, 4), 0b101110);
        x.put(9, Due.HEAP);
        x.put(5, Due.HEAP);
        x.put(9, Due.RIM);
        DUE.is("17: the last one", x.ahead(1, 4), 0b1000001110);
    }

    private static void aheadBags() {
        ChestnutCorner x = Due.told("raw roast 50 pan;nut;nut heap;nut rim;heat 8");
        DUE.is("17: bags at every place", x.ahead(0, 5), 36);
        DUE.is("17: but of one that will have burst", x.ahead(2, 5), 27);
        x.put(3, Due.GONE);
        x.change(3, 1, 9);
        DUE.is("17: and of one that is gone", x.ahead(0, 5), 27);
    }

    private static void aheadLost() {
        ChestnutCorner x = new ChestnutCorner();
        x.crowd(0, 0, 8);
        x.crowd(0, 1, 20);
        DUE.is("17: lost in one", x.ahead(1, 2), 4);
        DUE.is("17: lost in two", x.ahead(2, 2), 14);
        x.minutes(1);
        DUE.is("17: lost in none, though some were", x.ahead(0, 2), 0);
        DUE.is("17: lost in the second one alone", x.ahead(1, 2), 10);
        DUE.is("17: lost ever stays", x.now(7), 4);
    }

    private static void aheadOfWalks() {
        ChestnutCorner x = Due.told("nut roast 100 heap;crowd 8 at 1 minute 2;crowd 8 at 1 minute 3");
        x.walk(1);
        DUE.is("17: it walks in them, too", x.ahead(3, 1), 0);
        DUE.is("17: it has come in them", x.ahead(4, 1), 4);
        DUE.is("17: coin of them", x.ahead(4, 0), 16);
        DUE.is("17: it walks yet", x.now(4), 3);
    }

    private static void ready() {
        EVENING.beyond("18: batch", 0, 5, ChestnutCorner::ready);
        FULL.beyond("18: batch of 10", 0, 9, ChestnutCorner::ready);
        EMPTY.refused("18: there is none", Due.BEYOND, x -> x.ready(0));
        EVENING.asks("18: in one", 1, x -> x.ready(1));
        EVENING.asks("18: now", 0, x -> x.ready(4));
        EVENING.refused("18: never, in the sack", Due.NONE, x -> x.ready(0));
        EVENING.refused("18: gone, the last batch", Due.STATE, x -> x.ready(5));
        FULL.refused("18: never, the last one of 10", Due.NONE, x -> x.ready(9));
    }

    private static void readyEdges() {
        int[] ready = {100, 130, 80, 140, 80, 100, 100};
        for (int kind = 0; kind <= 6; kind++) {
            ChestnutCorner x = new ChestnutCorner();
            x.batch(kind);
            x.change(0, 2, ready[kind]);
            DUE.is("18: kind " + kind + " is just ready", x.ready(0), 0);
            x.change(0, 2, ready[kind] - 1);
            DUE.is("18: kind " + kind + " is not ready in the sack", x.ready(0), Due.NONE);
            x.put(0, Due.PAN);
            DUE.is("18: kind " + kind + " is ready in one", x.ready(0), 1);
        }
        // 75 and 9 are more than 80, and burst, at HEAT 8; at HEAT 7 they do not.
        DUE.is("18: bursting, it is not ready", Due.told("raw roast 75 pan;heat 8").ready(0), Due.NONE);
        DUE.is("18: not bursting, it is", Due.told("raw roast 75 pan;heat 7").ready(0), 1);
        DUE.is("18: ready ahead of bursting", Due.told("raw roast 80 pan;heat 8").ready(0), 0);
        DUE.is("18: burnt is ready, too", Due.told("nut roast 999").ready(0), 0);
    }

    private static void burnt() {
        EVENING.beyond("19: batch", 0, 5, ChestnutCorner::burnt);
        FULL.beyond("19: batch of 10", 0, 9, ChestnutCorner::burnt);
        EMPTY.refused("19: there is none", Due.BEYOND, x -> x.burnt(0));
        // From 98: 9, 9, 8 (MINUTE 4), 8, 11 (MINUTE 6)
        EVENING.asks("19: in five", 5, x -> x.burnt(1));
        EVENING.refused("19: never, on the heap", Due.NONE, x -> x.burnt(3));
        EVENING.refused("19: gone, the last batch", Due.STATE, x -> x.burnt(5));
        EVENING.refused("19: never, the first batch", Due.NONE, x -> x.burnt(0));
    }

    private static void burntEdges() {
        int[] burnt = {140, 170, 105, 180, 105, 140, 140};
        for (int kind = 0; kind <= 6; kind++) {
            ChestnutCorner x = new ChestnutCorner();
            x.batch(kind);
            x.change(0, 2, burnt[kind]);
            DUE.is("19: kind " + kind + " is just burnt", x.burnt(0), 0);
            x.change(0, 2, burnt[kind] - 1);
            DUE.is("19: kind " + kind + " is not burnt in the sack", x.burnt(0), Due.NONE);
            x.put(0, Due.PAN);
            DUE.is("19: kind " + kind + " is burnt in one", x.burnt(0), 1);
        }
        DUE.is("19: bursting", Due.told("raw roast 51 pan;heat 8").burnt(0), 1);
        DUE.is("19: bursting later", Due.told("raw roast 50 pan;heat 8").burnt(0), 2);
        // 8 in each of the MINUTES 0 to 3, 7 in 4 and 5
        DUE.is("19: not bursting", Due.told("raw roast 60 pan;heat 7").burnt(0), 6);
    }

    private static void state() {
        Edge at799 = new Edge(DUE, () -> Scenes.eveningAt(799));
        at799.asks("18: MINUTE 799", 0, x -> x.ready(3));
        at799.refused("18: MINUTE 799, never", Due.NONE, x -> x.ready(0));
        at799.refused("19: MINUTE 799, never", Due.NONE, x -> x.burnt(0));
        Edge at800 = new Edge(DUE, () -> Scenes.eveningAt(800));
        at800.refused("18: MINUTE 800", Due.STATE, x -> x.ready(3));
        at800.refused("19: MINUTE 800", Due.STATE, x -> x.burnt(1));
        at800.refused("18: STATE is asked ahead of NONE", Due.STATE, x -> x.ready(0));
        at800.refused("19: STATE is asked ahead of NONE", Due.STATE, x -> x.burnt(0));
        at800.refused("18: gone, at MINUTE 800", Due.STATE, x -> x.ready(5));
        at800.beyond("18: BEYOND is asked ahead of STATE: batch", 0, 5, ChestnutCorner::ready);
        at800.beyond("19: BEYOND is asked ahead of STATE: batch", 0, 5, ChestnutCorner::burnt);
    }

    /** From HEAT 6 the fire does 24 and 5 times 5, 4, 3, 2 and 1, all in all 99; behind MINUTE 28 it is out. */
    private static void farthest() {
        ChestnutCorner x = Due.told("nut roast 1 pan;nut roast 41 pan;nut rim;heat 6");
        DUE.is("17: all that the fire does", x.ahead(200, 6), 100);
        DUE.is("17: by its last minute", x.ahead(29, 6), 100);
        DUE.is("17: a minute ahead of that", x.ahead(28, 6), 99);
        DUE.is("17: the fire is out", x.ahead(29, 3), 1);
        DUE.is("17: the fire is out", x.ahead(30, 3), 0);
        // Half of 6 and of 5, of 4 and of 3, of 2: 12 and 10, 10 and 5, 5
        DUE.is("17: all that it does on the rim", x.ahead(200, 8), 42);
        DUE.is("18: in the last minute", x.ready(0), 29);
        DUE.is("19: in the last minute", x.burnt(1), 29);
        x.change(0, 2, 0);
        x.change(1, 2, 40);
        DUE.is("18: not before the fire is out", x.ready(0), Due.NONE);
        DUE.is("19: not before the fire is out", x.burnt(1), Due.NONE);
    }
}
