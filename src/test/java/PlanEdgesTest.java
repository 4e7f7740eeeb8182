/** The edges of promises 20 to 32: each sentence that names one, by itself. */
public final class PlanEdgesTest {
    private static final Due DUE = new Due("PlanEdgesTest");
    private static final Edge EVENING = new Edge(DUE, Scenes::evening);
    private static final Edge FULL = new Edge(DUE, Scenes::full);
    private static final Edge EMPTY = new Edge(DUE, Scenes::empty);
    private static final Edge WALKING = new Edge(DUE, Scenes::walking);
    private static final Edge LAST = new Edge(DUE, () -> Scenes.eveningAt(999));
    private static final Edge LAST_WALKING = new Edge(DUE, () -> {
        ChestnutCorner x = Scenes.eveningAt(999);
        x.walk(1);
        return x;
    });

    public static void main(String[] args) {
        plans();
        putOnBeyond();
        putOnState();
        putOnNone();
        putOnWaits();
        putOnRoom();
        putOnGreatest();
        takeOff();
        takeOffWaits();
        takeOffNotAtAll();
        takeOffGone();
        shovels();
        corner();
        two();
        twoTies();
        price();
        kindFor();
        heatFor();
        heatForHeats();
        brings();
        best();
        left();
        boys();
        boysTake();
        seed();
        behindOneAnother();
        DUE.end();
    }

    /** A text behind which MINUTE is m. */
    private static Edge on(String text, int m) {
        return new Edge(DUE, () -> Scenes.until(Due.told(text), m));
    }

    private static Edge on(String text) {
        return on(text, 0);
    }

    /** What n (1 to 120) and MINUTE (above 999) are to all plans alike. */
    private static void plans() {
        plan("21", (x, n) -> x.takeOff(1, n));
        plan("22", ChestnutCorner::shovels);
        plan("23", ChestnutCorner::corner);
        plan("25", ChestnutCorner::price);
        plan("26", (x, n) -> x.kindFor(3, n));
        plan("27", (x, n) -> x.heatFor(1, n));
        plan("28", (x, n) -> x.brings(0, n));
        plan("29", ChestnutCorner::best);
        plan("30", ChestnutCorner::left);
    }

    private static void plan(String promise, Edge.CallOf call) {
        EVENING.range(promise + ": n", 1, 120, call);
        for (int n : new int[] {1, 2, 119, 120}) {
            Edge fits = new Edge(DUE, () -> Scenes.eveningAt(999 - n));
            fits.allowed(promise + ": " + n + " to 999", x -> call.on(x, n));
            Edge above = new Edge(DUE, () -> Scenes.eveningAt(1000 - n));
            above.refused(promise + ": " + n + " to 1000", Due.STATE, x -> call.on(x, n));
        }
        LAST.beyond(promise + ": BEYOND is asked ahead of STATE: n", 1, 120, call);
    }

    private static void putOnBeyond() {
        Edge done = on("nut roast 100;nut roast 100");
        done.range("20: batch", 0, 1, (x, v) -> x.putOn(v, 1));
        done.beyond("20: m", 0, 999, (x, v) -> x.putOn(0, v));
        done.asks("20: m 0", 0, x -> x.putOn(0, 0));
        done.refused("20: m 999 is allowed, but too far", Due.NONE, x -> x.putOn(0, 999));
        EMPTY.refused("20: there is none", Due.BEYOND, x -> x.putOn(0, 0));
        EVENING.beyond("20: BEYOND is asked ahead of STATE: m", 0, 999, (x, v) -> x.putOn(1, v));
        Edge late = on("nut roast 100", 740);
        late.beyond("20: BEYOND is asked ahead of STATE, the MINUTE: m", 0, 999, (x, v) -> x.putOn(0, v));
        late.beyond("20: BEYOND is asked ahead of STATE, the MINUTE: batch", 0, 0, (x, v) -> x.putOn(v, 0));
    }

    private static void putOnState() {
        String[] names = {"in the pan", "on the rim", "on the heap", "on the heap, too", "gone"};
        for (int i = 1; i <= 5; i++) {
            int batch = i;
            EVENING.refused("20: " + names[i - 1], Due.STATE, x -> x.putOn(batch, 3));
        }
        Edge at739 = on("nut roast 100", 739);
        at739.asks("20: MINUTE 739, now", 0, x -> x.putOn(0, 739));
        at739.asks("20: MINUTE 739, the latest", 60, x -> x.putOn(0, 799));
        at739.refused("20: MINUTE 739, too late", Due.NONE, x -> x.putOn(0, 800));
        Edge at740 = on("nut roast 100", 740);
        at740.refused("20: MINUTE 740", Due.STATE, x -> x.putOn(0, 740));
        at740.refused("20: STATE, the MINUTE, is asked ahead of NONE", Due.STATE, x -> x.putOn(0, 0));
        EVENING.refused("20: STATE, the PLACE, is asked ahead of NONE", Due.STATE, x -> x.putOn(4, 0));
    }

    private static void putOnNone() {
        on("nut;heat 0").refused("20: no fire", Due.NONE, x -> x.putOn(0, 20));
        on("raw roast 75;heat 9").refused("20: it bursts", Due.NONE, x -> x.putOn(0, 1));
        on("nut roast 100", 5).refused("20: m is over", Due.NONE, x -> x.putOn(0, 4));
        on("nut roast 100", 5).asks("20: m is now", 0, x -> x.putOn(0, 5));
        // At HEAT 6 the fire does 99 by the MINUTE 29.
        on("nut roast 1;heat 6").asks("20: in the last minute of the fire", 0, x -> x.putOn(0, 29));
        on("nut;heat 6").refused("20: a bit too little", Due.NONE, x -> x.putOn(0, 29));
        on("nut roast 2;heat 6").asks("20: or a minute ahead of it", 0, x -> x.putOn(0, 28));
    }

    private static void putOnWaits() {
        Edge done = on("nut roast 100", 7);
        done.asks("20: none", 0, x -> x.putOn(0, 7));
        done.asks("20: one", 1, x -> x.putOn(0, 8));
        done.asks("20: 60", 60, x -> x.putOn(0, 67));
        done.refused("20: 61", Due.NONE, x -> x.putOn(0, 68));
        Edge shortly = on("nut roast 99;heat 20");
        shortly.asks("20: 60 and one minute in the pan", 60, x -> x.putOn(0, 61));
        shortly.refused("20: 61 and one minute in the pan", Due.NONE, x -> x.putOn(0, 62));
    }

    private static void putOnRoom() {
        on("nut roast 99;nut pan").asks("20: one is in the pan", 0, x -> x.putOn(0, 1));
        on("nut roast 99;nut pan;nut pan").refused("20: two are in the pan", Due.NONE, x -> x.putOn(0, 1));
        // At HEAT 9 the raw one has 70 behind the first minute and bursts then.
        Edge raw = on("nut roast 99;nut pan;raw roast 60 pan;heat 9");
        raw.refused("20: no room before that", Due.NONE, x -> x.putOn(0, 1));
        raw.asks("20: room by then", 1, x -> x.putOn(0, 2));
    }

    private static void putOnGreatest() {
        Edge cold = new Edge(DUE, () -> {
            ChestnutCorner x = Due.told("nut roast 91;heat 0");
            x.shovel(3);
            return x;
        });
        cold.asks("20: nothing roasts in the MINUTES 0 to 5: the greatest", 6, x -> x.putOn(0, 7));
        cold.asks("20: in the MINUTE 6 it is ready in one, and from then on", 8, x -> x.putOn(0, 9));
    }

    private static void takeOff() {
        EVENING.beyond("21: batch", 0, 5, (x, v) -> x.takeOff(v, 1));
        EMPTY.refused("21: there is none", Due.BEYOND, x -> x.takeOff(0, 1));
        EVENING.allowed("21: in the pan", x -> x.takeOff(1, 1));
        EVENING.allowed("21: on the rim", x -> x.takeOff(2, 1));
        EVENING.refused("21: in the sack", Due.STATE, x -> x.takeOff(0, 1));
        EVENING.refused("21: on the heap", Due.STATE, x -> x.takeOff(3, 1));
        EVENING.refused("21: gone", Due.STATE, x -> x.takeOff(5, 1));
        EVENING.beyond("21: BEYOND is asked ahead of STATE, the PLACE: n", 1, 120, (x, v) -> x.takeOff(0, v));
        LAST.beyond("21: BEYOND is asked ahead of STATE: batch", 0, 5, (x, v) -> x.takeOff(v, 1));
        LAST.refused("21: both of STATE", Due.STATE, x -> x.takeOff(0, 1));
        EVENING.asks("21: of several the least", 0, x -> x.takeOff(2, 120));
    }

    private static void takeOffWaits() {
        // Sold for WORTH if it is at most 10 old then: taken off behind 60 at the earliest.
        Edge sixty = on("nut roast 100 rim;crowd 9 at 0 minute 69;heat 0");
        sixty.asks("21: 60", 60, x -> x.takeOff(0, 70));
        Edge later = on("nut roast 100 rim;crowd 9 at 0 minute 70;heat 0");
        later.asks("21: 61 is too long: for half, from 46 on", 46, x -> x.takeOff(0, 71));
        Edge none = on("nut roast 100 rim;crowd 9 at 0 minute 0;heat 0");
        none.asks("21: 0", 0, x -> x.takeOff(0, 1));
        Edge age = on("nut roast 100 rim;crowd 9 at 0 minute 10;heat 0");
        age.asks("21: taken off now it is 11 old then", 1, x -> x.takeOff(0, 11));
        Edge roast = on("nut roast 99 pan;crowd 9 at 0 minute 10;heat 9");
        roast.asks("21: at the moment when it is ready", 1, x -> x.takeOff(0, 11));
    }

    private static void takeOffNotAtAll() {
        // Those on the heap bring more, if they are not older than what is taken off.
        Edge dear = on("nut roast 100 rim;sweet roast 150 heap;crowd 9 at 0 minute 3;heat 0");
        dear.asks("21: not at all", 4, x -> x.takeOff(0, 4));
        dear.asks("21: not at all, or behind them", 4, x -> x.takeOff(0, 5));
        // As old as the sweet ones it is sold first, being the least number.
        Edge same = on("sweet roast 150 heap;nut roast 100 rim;crowd 9 at 0 minute 3;heat 0");
        same.asks("21: of one age, the other one is the least number", 0, x -> x.takeOff(1, 4));
        Edge one = on("nut roast 100 rim;sweet roast 150 heap;crowd 9 at 0 minute 0;heat 0");
        one.asks("21: not at all in one minute", 1, x -> x.takeOff(0, 1));
        // The nut is 10 old at 59 when it is taken off behind 50, at 60 behind 51.
        Edge longer = on("nut roast 100 rim;crowd 9 at 0 minute 59;crowd 9 at 0 minute 60;heat 0");
        longer.asks("21: of 61 minutes", 51, x -> x.takeOff(0, 61));
        longer.asks("21: of 60 minutes", 50, x -> x.takeOff(0, 60));
    }

    private static void takeOffGone() {
        on("raw roast 60 pan;crowd 9 at 0 minute 3;heat 9").asks("21: gone by then", 0, x -> x.takeOff(0, 4));
        // It is ready and sold, if it is taken off at once.
        on("raw roast 80 pan;crowd 9 at 0 minute 3;heat 9").asks("21: not yet gone", 0, x -> x.takeOff(0, 4));
        // 74, and 82 behind the second minute; two shovels make it burst in MINUTE 6.
        Edge raw = new Edge(DUE, () -> {
            ChestnutCorner x = Due.told("raw roast 66 pan;crowd 9 at 0 minute 16;heat 7");
            x.shovel(2);
            return x;
        });
        raw.asks("21: ready, but gone when it would be worth more", 2, x -> x.takeOff(0, 17));
    }

    private static void shovels() {
        EVENING.asks("22: of several the least", 0, x -> x.shovels(120));
        FULL.asks("22: of several the least", 0, x -> x.shovels(120));
        EMPTY.asks("22: of several the least", 0, x -> x.shovels(1));
        Edge later = on("nut roast 99 pan;nut roast 100 heap;crowd 9 at 0 minute 5");
        later.asks("22: whoever comes behind n", 0, x -> x.shovels(3));
        later.asks("22: all of them from now, whatever was asked", 0, x -> x.ahead(2, 0) + x.shovels(3));
        later.asks("22: those in the pan are not sold", 0, x -> x.shovels(6));
    }

    private static void corner() {
        WALKING.refused("23: it walks", Due.STATE, x -> x.corner(1));
        WALKING.beyond("23: BEYOND is asked ahead of STATE, it walks: n", 1, 120, ChestnutCorner::corner);
        Edge arriving = new Edge(DUE, () -> {
            ChestnutCorner x = Scenes.walking();
            x.minutes(5);
            return x;
        });
        arriving.refused("23: it walks for one minute yet", Due.STATE, x -> x.corner(1));
        arriving.refused("24: it walks for one minute yet", Due.STATE, x -> x.two(1, 2));
        LAST_WALKING.refused("23: both of STATE", Due.STATE, x -> x.corner(1));
        EMPTY.asks("23: of several the least", 0, x -> x.corner(120));
        Edge last = on("nut roast 100 heap;crowd 9 at 3 minute 9");
        last.asks("23: the last one, which it reaches in 9 minutes", 3, x -> x.corner(10));
        last.asks("23: not by then", 0, x -> x.corner(9));
        on("nut roast 100 heap;crowd 9 at 3 minute 8").asks("23: too early a crowd", 0, x -> x.corner(120));
        on("nut roast 100 heap;crowd 9 at 0 minute 0").asks("23: staying too", 0, x -> x.corner(1));
        Edge ties = on("nut roast 100 heap;crowd 9 at 3 minute 9;crowd 9 at 1 minute 9;crowd 9 at 2 minute 9");
        ties.asks("23: the least of three", 1, x -> x.corner(10));
        Edge away = new Edge(DUE, () -> {
            ChestnutCorner x = Due.told("nut roast 100 heap;crowd 9 at 2 minute 20");
            x.walk(2);
            x.minutes(6);
            return x;
        });
        away.asks("23: staying at 2", 2, x -> x.corner(15));
        away.asks("23: of several the least, though it has to walk", 0, x -> x.corner(14));
    }

    private static void two() {
        EVENING.range("24: k", 1, 60, (x, v) -> x.two(v, 120));
        EVENING.range("24: n", 2, 120, (x, v) -> x.two(1, v));
        EVENING.range("24: n more than 60", 61, 120, (x, v) -> x.two(60, v));
        EVENING.refused("24: n as much as k", Due.BEYOND, x -> x.two(9, 9));
        EVENING.refused("24: n less than k", Due.BEYOND, x -> x.two(9, 8));
        EVENING.refused("24: n 1", Due.BEYOND, x -> x.two(1, 1));
        EVENING.refused("24: k 61, n more", Due.BEYOND, x -> x.two(61, 62));
        EVENING.refused("24: n 121, k less", Due.BEYOND, x -> x.two(60, 121));
        for (int n : new int[] {2, 120}) {
            new Edge(DUE, () -> Scenes.eveningAt(999 - n)).allowed("24: " + n + " to 999", x -> x.two(1, n));
            new Edge(DUE, () -> Scenes.eveningAt(1000 - n))
                    .refused("24: " + n + " to 1000", Due.STATE, x -> x.two(1, n));
        }
        WALKING.refused("24: it walks", Due.STATE, x -> x.two(1, 2));
        WALKING.beyond("24: BEYOND is asked ahead of STATE, it walks: k", 1, 60, (x, v) -> x.two(v, 120));
        LAST.beyond("24: BEYOND is asked ahead of STATE, the MINUTE: n", 2, 120, (x, v) -> x.two(1, v));
        LAST.beyond("24: BEYOND is asked ahead of STATE, the MINUTE: k", 1, 60, (x, v) -> x.two(v, 120));
        LAST_WALKING.refused("24: both of STATE", Due.STATE, x -> x.two(1, 2));
    }

    private static void twoTies() {
        EMPTY.asks("24: of several the least", 0, x -> x.two(1, 2));
        Edge there = on("nut roast 100 heap;nut roast 100 heap;crowd 9 at 1 minute 3;crowd 9 at 0 minute 7");
        there.asks("24: there, and back", 10, x -> x.two(4, 8));
        there.asks("24: it walks then: the least second one", 10, x -> x.two(2, 4));
        there.asks("24: it has come then, and stays", 11, x -> x.two(3, 4));
        there.asks("24: back too late", 0, x -> x.two(5, 8));
        Edge last = on("nut roast 100 heap;nut roast 100 heap;crowd 9 at 3 minute 9;crowd 9 at 2 minute 13");
        last.asks("24: to the last one, and on", 32, x -> x.two(10, 14));
        last.asks("24: to the last one, walking yet", 30, x -> x.two(7, 10));
        Edge stay = on("nut roast 100 heap;crowd 9 at 0 minute 0;crowd 9 at 3 minute 10");
        stay.asks("24: staying, and to the last one", 3, x -> x.two(1, 11));
        stay.asks("24: too late", 0, x -> x.two(2, 11));
    }

    private static void price() {
        EMPTY.asks("25: of several the least", 0, x -> x.price(1));
        Edge one = new Edge(DUE, () -> {
            ChestnutCorner x = Due.told("nut roast 100 heap;crowd 22 at 0 minute 0;cold 9");
            x.change(0, 1, 1);
            return x;
        });
        one.asks("25: the greatest", 99, x -> x.price(1));
        // 2 * 10 / 11 = 1 comes at each price: less 99 hundredths of 1, nothing.
        on("nut roast 100 heap;crowd 2 at 0 minute 0;cold 9").asks("25: one comes at 99", 99, x -> x.price(1));
        // 20 * 6 / 11 = 10: six at 49 (294), seven at 39 (273), five at 59 (295), four at 69 (276)
        on("nut roast 100 heap;crowd 20 at 0 minute 0").asks("25: five at 59", 59, x -> x.price(1));
        on("nut roast 100 heap;crowd 1 at 0 minute 0").asks("25: nobody comes at all", 0, x -> x.price(1));
    }

    private static void kindFor() {
        EVENING.range("26: batch", 0, 5, (x, v) -> x.kindFor(v, 1));
        EMPTY.refused("26: there is none", Due.BEYOND, x -> x.kindFor(0, 1));
        LAST.beyond("26: BEYOND is asked ahead of STATE: batch", 0, 5, (x, v) -> x.kindFor(v, 1));
        EVENING.asks("26: of several the least", 0, x -> x.kindFor(4, 1));
        String heap = " heap;crowd 9 at 0 minute 0";
        on("old roast 79" + heap).asks("26: ready as none", Due.NUT, x -> x.kindFor(0, 1));
        on("old roast 80" + heap).asks("26: ready as a small one", Due.SMALL, x -> x.kindFor(0, 1));
        on("old roast 99" + heap).asks("26: not yet ready as a nut", Due.SMALL, x -> x.kindFor(0, 1));
        on("old roast 139" + heap).asks("26: not yet burnt as a nut", Due.NUT, x -> x.kindFor(0, 1));
        on("old roast 140" + heap).asks("26: ready as a sweet one", Due.SWEET, x -> x.kindFor(0, 1));
        on("old roast 179" + heap).asks("26: not yet burnt as a sweet one", Due.SWEET, x -> x.kindFor(0, 1));
        on("old roast 180" + heap).asks("26: burnt as any", Due.NUT, x -> x.kindFor(0, 1));
        // A nut that is younger is sold instead of it; as one that is not ready it makes room for the sweet ones.
        Edge other = on("nut roast 100 heap;sweet roast 150 heap;crowd 9 at 0 minute 0");
        other.asks("26: as what is not ready", Due.LARGE, x -> x.kindFor(0, 1));
        on("old roast 150;crowd 9 at 0 minute 0").asks("26: in the sack", 0, x -> x.kindFor(0, 1));
    }

    private static void heatFor() {
        EVENING.beyond("27: batch", 0, 5, (x, v) -> x.heatFor(v, 1));
        EMPTY.refused("27: there is none", Due.BEYOND, x -> x.heatFor(0, 1));
        EVENING.refused("27: in the sack", Due.STATE, x -> x.heatFor(0, 1));
        EVENING.refused("27: on the heap, though it is ready", Due.STATE, x -> x.heatFor(3, 1));
        EVENING.refused("27: gone", Due.STATE, x -> x.heatFor(5, 1));
        EVENING.beyond("27: BEYOND is asked ahead of STATE, the PLACE: n", 1, 120, (x, v) -> x.heatFor(0, v));
        LAST.beyond("27: BEYOND is asked ahead of STATE: batch", 0, 5, (x, v) -> x.heatFor(v, 1));
        LAST.refused("27: STATE, the MINUTE, is asked ahead of NONE", Due.STATE, x -> x.heatFor(2, 1));
        EVENING.refused("27: none is enough", Due.NONE, x -> x.heatFor(2, 1));
        on("nut;nut;heat 9").refused("27: STATE, the PLACE, is asked ahead of NONE", Due.STATE, x -> x.heatFor(0, 1));
    }

    private static void heatForHeats() {
        on("nut roast 80 pan").asks("27: the greatest", 20, x -> x.heatFor(0, 1));
        on("nut roast 79 pan").refused("27: above the greatest", Due.NONE, x -> x.heatFor(0, 1));
        on("nut roast 79 pan").asks("27: within two", 11, x -> x.heatFor(0, 2));
        on("nut roast 99 pan").asks("27: the least but one", 1, x -> x.heatFor(0, 1));
        on("nut roast 100 pan").asks("27: ready already", 0, x -> x.heatFor(0, 1));
        on("nut roast 999 pan").asks("27: burnt is ready, too", 0, x -> x.heatFor(0, 1));
        on("nut roast 99 rim").asks("27: on the rim", 2, x -> x.heatFor(0, 1));
        on("nut roast 90 rim").asks("27: the greatest on the rim", 20, x -> x.heatFor(0, 1));
        on("nut roast 89 rim").refused("27: above the greatest on the rim", Due.NONE, x -> x.heatFor(0, 1));
        on("raw roast 72 pan").asks("27: up to 7 it does not burst", 7, x -> x.heatFor(0, 1));
        on("raw roast 71 pan").refused("27: from 8 on it bursts", Due.NONE, x -> x.heatFor(0, 1));
        on("raw roast 72 rim;heat 20").asks("27: not on the rim", 14, x -> x.heatFor(0, 1));
        // 24 at HEAT 6 in the first four minutes, then 5 in each: 99 in 29.
        on("nut roast 1 pan").asks("27: within 29", 6, x -> x.heatFor(0, 29));
        on("nut roast 1 pan").asks("27: within 28", 7, x -> x.heatFor(0, 28));
        on("nut pan").asks("27: within 120", 7, x -> x.heatFor(0, 120));
    }

    private static void brings() {
        EVENING.range("28: crowd", 0, 1, (x, v) -> x.brings(v, 1));
        FULL.range("28: crowd of 12", 0, 11, (x, v) -> x.brings(v, 1));
        EMPTY.refused("28: there is none", Due.BEYOND, x -> x.brings(0, 1));
        LAST.beyond("28: BEYOND is asked ahead of STATE: crowd", 0, 1, (x, v) -> x.brings(v, 1));
        Edge some = on("nut roast 100 heap;crowd 9 at 0 minute 2;crowd 0 at 0 minute 0;crowd 9 at 1 minute 2");
        some.asks("28: in its minute", 16, x -> x.brings(0, 3));
        some.asks("28: not by then", 0, x -> x.brings(0, 2));
        some.asks("28: one of nobody", 0, x -> x.brings(1, 3));
        some.asks("28: one at another corner", 0, x -> x.brings(2, 3));
        some.asks("28: of 120 minutes", 16, x -> x.brings(0, 120));
    }

    private static void best() {
        EMPTY.refused("29: there is none", Due.NONE, x -> x.best(1));
        EMPTY.beyond("29: BEYOND is asked ahead of NONE: n", 1, 120, ChestnutCorner::best);
        Edge last = new Edge(DUE, () -> Scenes.until(new ChestnutCorner(), 999));
        last.refused("29: STATE is asked ahead of NONE", Due.STATE, x -> x.best(1));
        FULL.asks("29: of several the least", 0, x -> x.best(120));
        String text = "nut roast 100 heap;crowd 4 at 0 minute 0;crowd 6 at 0 minute 1;crowd 7 at 0 minute 2";
        on(text).asks("29: by 1", 0, x -> x.best(1));
        on(text).asks("29: by 2", 1, x -> x.best(2));
        on(text).asks("29: by 3, two bring three bags each", 1, x -> x.best(3));
    }

    private static void left() {
        EMPTY.refused("30: there is no batch", Due.NONE, x -> x.left(1));
        EMPTY.beyond("30: BEYOND is asked ahead of NONE: n", 1, 120, ChestnutCorner::left);
        Edge last = new Edge(DUE, () -> Scenes.until(new ChestnutCorner(), 999));
        last.refused("30: STATE is asked ahead of NONE", Due.STATE, x -> x.left(1));
        Edge gone = new Edge(DUE, () -> {
            ChestnutCorner x = Due.told("nut;nut");
            x.put(0, Due.GONE);
            x.put(1, Due.GONE);
            x.change(1, 1, 9);
            return x;
        });
        gone.refused("30: all are gone", Due.NONE, x -> x.left(1));
        on("raw roast 51 pan;heat 8").refused("30: gone by then", Due.NONE, x -> x.left(1));
        on("raw roast 50 pan;heat 8").asks("30: not gone by then", 0, x -> x.left(1));
        on("raw roast 50 pan;heat 8").refused("30: gone a minute later", Due.NONE, x -> x.left(2));
        FULL.asks("30: of several the least", 0, x -> x.left(1));
        Edge sold = on("nut roast 100 heap;nut;crowd 2 at 0 minute 0;cold 9");
        sold.asks("30: a bag of the other one is sold", 1, x -> x.left(1));
        Edge none = new Edge(DUE, () -> {
            ChestnutCorner x = Due.told("nut;nut");
            x.change(0, 1, 0);
            x.change(1, 1, 0);
            return x;
        });
        none.asks("30: none has any: the least", 0, x -> x.left(120));
    }

    private static void boys() {
        EVENING.range("31: n", 1, 12, ChestnutCorner::boys);
        EMPTY.refused("31: there is no batch", Due.STATE, x -> x.boys(1));
        EMPTY.refused("31: there is no batch for 12", Due.STATE, x -> x.boys(12));
        EMPTY.beyond("31: BEYOND is asked ahead of STATE: n", 1, 12, ChestnutCorner::boys);
    }

    private static void boysTake() {
        for (int place = 0; place <= Due.GONE; place++) {
            ChestnutCorner x = Due.told("nut");
            x.put(0, place);
            x.change(0, 1, 9);
            boolean heap = place == Due.HEAP;
            DUE.is("31: from place " + place, x.boys(2), heap ? 2 : 0);
            DUE.is("31: bags at place " + place, x.of(0, 1), heap ? 7 : 9);
            DUE.is("31: two draws at place " + place, x.count(7), -1770082073);
        }
        for (int bags = 0; bags <= 3; bags++) {
            ChestnutCorner x = Due.told("nut heap");
            x.change(0, 1, bags);
            DUE.is("31: of " + bags, x.boys(2), Math.min(bags, 2));
            DUE.is("31: left of " + bags, x.of(0, 1), bags - Math.min(bags, 2));
            DUE.is("31: neither sold", x.now(5), 0);
            DUE.is("31: nor wasted", x.now(6), 0);
            DUE.is("31: nor paid for", x.now(1), 0);
        }
    }

    private static void seed() {
        int[] zs = {0, 1, -1, Integer.MAX_VALUE, Integer.MIN_VALUE, Due.BEYOND, Due.SIZE};
        for (int z : zs) {
            ChestnutCorner x = new ChestnutCorner();
            DUE.is("32: z at first", x.seed(z), 1);
            DUE.is("32: z is told, " + z, x.count(7), z);
            DUE.is("32: z was, " + z, x.seed(5), z);
            DUE.is("32: that is no finding, " + z, x.status(-1), 0);
        }
    }

    private static final Edge.CallOf[] PLANS = {
        (x, n) -> x.ahead(n, 0), (x, n) -> x.ahead(n, 2), (x, n) -> x.ready(1), (x, n) -> x.burnt(1),
        (x, n) -> x.putOn(0, n), (x, n) -> x.takeOff(1, n), ChestnutCorner::shovels, ChestnutCorner::corner,
        (x, n) -> x.two(2, n), ChestnutCorner::price, (x, n) -> x.kindFor(3, n), (x, n) -> x.heatFor(1, n),
        (x, n) -> x.brings(0, n), (x, n) -> x.brings(1, n), ChestnutCorner::best, ChestnutCorner::left};

    /** AHEAD nothing changes: each plan is told behind each other one as it is told on an object of its own. */
    private static void behindOneAnother() {
        for (int i = 0; i < PLANS.length; i++) {
            for (int j = 0; j < PLANS.length; j++) {
                ChestnutCorner x = busy();
                PLANS[i].on(x, 5);
                DUE.is("plan " + j + " behind plan " + i, PLANS[j].on(x, 9), PLANS[j].on(busy(), 9));
                DUE.is("plan " + i + " again", PLANS[i].on(x, 5), PLANS[i].on(busy(), 5));
            }
        }
    }

    /** A MINUTE in which some have bought and some were lost, and more of them come. */
    private static ChestnutCorner busy() {
        ChestnutCorner x = Due.told("nut roast 90;nut roast 90 pan;raw roast 60 rim;old roast 120 heap;"
                + "sweet roast 140 heap;heat 9;price 30");
        x.crowd(0, 0, 50);
        x.crowd(0, 6, 30);
        x.crowd(1, 8, 40);
        x.shovel(2);
        x.minutes(1);
        x.change(3, 1, 5);
        x.change(4, 1, 7);
        return x;
    }
}
