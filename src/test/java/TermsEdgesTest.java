/** The edges that "Terms" name: kinds, the fire, roasting, bursting, ageing, selling, draws. */
public final class TermsEdgesTest {
    private static final Due DUE = new Due("TermsEdgesTest");
    private static final String[] KINDS = {"nut", "large", "small", "sweet", "raw", "wormed", "old"};
    private static final int[] READY = {100, 130, 80, 140, 80, 100, 100};
    private static final int[] BURNT = {140, 170, 105, 180, 105, 140, 140};

    public static void main(String[] args) {
        heats();
        worth();
        bursts();
        burstsAloneOf();
        burstsAtTheHeatOfThatMinute();
        burstBags();
        shovelsWarm();
        shovelsAtMost();
        cooler();
        shovelsAreFirst();
        rim();
        roastAtMost();
        roastsWhere();
        ages();
        come();
        sellsReadyNotBurnt();
        sellsByAge();
        sellsWhere();
        sellsFromTheLeastAge();
        sellsForHalf();
        comeWhere();
        comeWhen();
        crowdsByNumbers();
        walks();
        lastMinute();
        draws();
        DUE.end();
    }

    /** A batch of a kind at a place, with a roast. */
    private static ChestnutCorner one(int kind, int roast, int place) {
        ChestnutCorner x = new ChestnutCorner();
        x.batch(kind);
        x.change(0, 2, roast);
        if (place > 0) {
            x.put(0, place);
        }
        return x;
    }

    private static void heats() {
        int[] at = {0, 1, 2, 3, 19, 20};
        int[][] want = {
            {0, 1, 2, 3, 19, 20}, {0, 0, 1, 2, 18, 19}, {0, 2, 3, 4, 20, 21}, {0, 0, 1, 2, 18, 19},
            {0, 2, 3, 4, 20, 21}, {0, 1, 2, 3, 19, 20}, {0, 0, 1, 1, 9, 10}};
        for (int kind = 0; kind <= 6; kind++) {
            ChestnutCorner x = one(kind, 0, 0);
            for (int i = 0; i < at.length; i++) {
                DUE.is("HEATS of " + KINDS[kind] + " at " + at[i], x.heats(0, at[i]), want[kind][i]);
            }
        }
    }

    private static void worth() {
        int[] at = {0, 1, 2, 3, 4, 5, 98, 99};
        int[] sweet = {2, 3, 4, 5, 6, 7, 100, 101};
        int[] wormed = {0, 0, 0, 1, 2, 3, 96, 97};
        int[] old = {0, 0, 0, 0, 1, 1, 48, 48};
        int[][] want = {at, at, at, sweet, at, wormed, old};
        for (int kind = 0; kind <= 6; kind++) {
            ChestnutCorner x = one(kind, 0, 0);
            for (int i = 0; i < at.length; i++) {
                x.rule(1, at[i]);
                DUE.is("WORTH of " + KINDS[kind] + " at " + at[i], x.of(0, 7), want[kind][i]);
            }
        }
    }

    private static ChestnutCorner roasted(int kind, int roast, int place, int heat) {
        ChestnutCorner x = one(kind, roast, place);
        x.rule(0, heat);
        x.minutes(1);
        return x;
    }

    private static void bursts() {
        // A raw one has 9 at HEAT 8, 8 at HEAT 7.
        DUE.is("BURSTS: with 59 at 8 not", roasted(Due.RAW, 50, Due.PAN, 8).of(0, 4), Due.PAN);
        DUE.is("BURSTS: with 60 at 8", roasted(Due.RAW, 51, Due.PAN, 8).of(0, 4), Due.GONE);
        DUE.is("BURSTS: with 60 at 7 not", roasted(Due.RAW, 52, Due.PAN, 7).of(0, 4), Due.PAN);
        DUE.is("BURSTS: with 999 at 7 not", roasted(Due.RAW, 999, Due.PAN, 7).of(0, 4), Due.PAN);
        DUE.is("BURSTS: with 999 at 8", roasted(Due.RAW, 999, Due.PAN, 8).of(0, 4), Due.GONE);
        DUE.is("BURSTS: with 59 at 20 not", roasted(Due.RAW, 38, Due.PAN, 20).of(0, 4), Due.PAN);
        DUE.is("BURSTS: with 60 at 20", roasted(Due.RAW, 39, Due.PAN, 20).of(0, 4), Due.GONE);
        DUE.is("BURSTS: its roast is that of the minute", roasted(Due.RAW, 39, Due.PAN, 20).of(0, 2), 60);
    }

    private static void burstsAloneOf() {
        for (int kind = 0; kind <= 6; kind++) {
            int want = kind == Due.RAW ? Due.GONE : Due.PAN;
            DUE.is("BURSTS: " + KINDS[kind], roasted(kind, 500, Due.PAN, 20).of(0, 4), want);
        }
        for (int place = 0; place <= Due.HEAP; place++) {
            int want = place == Due.PAN ? Due.GONE : place;
            DUE.is("BURSTS: at place " + place, roasted(Due.RAW, 100, place, 20).of(0, 4), want);
        }
    }

    private static void burstsAtTheHeatOfThatMinute() {
        int[] heats = {8, 9};
        int[] want = {Due.PAN, Due.GONE};
        for (int i = 0; i < heats.length; i++) {
            ChestnutCorner x = Scenes.until(one(Due.RAW, 70, 0), 4);
            x.put(0, Due.PAN);
            x.rule(0, heats[i]);
            x.minutes(1);
            DUE.is("BURSTS: cooled down from " + heats[i], x.of(0, 4), want[i]);
        }
        ChestnutCorner y = one(Due.RAW, 70, 0);
        y.shovel(1);
        y.minutes(6);
        y.put(0, Due.PAN);
        y.rule(0, 5);
        y.minutes(1);
        DUE.is("BURSTS: warmed up to 8", y.of(0, 4), Due.GONE);
    }

    private static void burstBags() {
        ChestnutCorner x = one(Due.RAW, 60, Due.PAN);
        x.batch(Due.RAW);
        x.change(0, 1, 4);
        x.rule(0, 8);
        x.minutes(1);
        DUE.is("BURSTS: its bags are wasted", x.now(6), 4);
        DUE.is("BURSTS: it has none", x.of(0, 1), 0);
        DUE.is("BURSTS: the other one keeps its own", x.of(1, 1), 9);
        x.minutes(1);
        DUE.is("BURSTS: but once", x.now(6), 4);
        DUE.is("BURSTS: it roasts no more", x.of(0, 2), 69);
    }

    private static void shovelsWarm() {
        ChestnutCorner x = new ChestnutCorner();
        x.rule(0, 10);
        x.shovel(1);
        // It cools in the MINUTES 4 and 9.
        int[] want = {10, 10, 10, 10, 9, 9, 12, 12, 12, 11};
        for (int i = 0; i < want.length; i++) {
            x.minutes(1);
            DUE.is("SHOVELS: behind minute " + i, x.now(2), want[i]);
        }
        ChestnutCorner y = new ChestnutCorner();
        y.rule(0, 0);
        y.shovel(1);
        y.minutes(1);
        y.shovel(2);
        y.minutes(6);
        DUE.is("SHOVELS: those of the first minute", y.now(2), 3);
        y.minutes(1);
        DUE.is("SHOVELS: those of the second one", y.now(2), 9);
        y.minutes(7);
        DUE.is("SHOVELS: each warms once", y.now(2), 7);
    }

    private static void shovelsAtMost() {
        int[] shovels = {1, 1, 1, 2, 2, 9, 9};
        int[] before = {16, 17, 18, 13, 15, 0, 20};
        int[] behind = {19, 20, 20, 19, 20, 20, 20};
        for (int i = 0; i < shovels.length; i++) {
            ChestnutCorner x = new ChestnutCorner();
            x.shovel(shovels[i]);
            x.minutes(6);
            x.rule(0, before[i]);
            x.minutes(1);
            DUE.is("SHOVELS: " + shovels[i] + " at " + before[i], x.now(2), behind[i]);
        }
        ChestnutCorner six = new ChestnutCorner();
        six.shovel(6);
        six.minutes(6);
        six.rule(0, 0);
        six.minutes(1);
        DUE.is("SHOVELS: six at 0", six.now(2), 18);
    }

    private static void cooler() {
        ChestnutCorner x = new ChestnutCorner();
        for (int m = 0; m <= 20; m++) {
            x.rule(0, 10);
            x.minutes(1);
            DUE.is("MINUTE (a): in minute " + m, x.now(2), m % 5 == 4 ? 9 : 10);
        }
        for (int heat = 0; heat <= 2; heat++) {
            ChestnutCorner y = Scenes.until(new ChestnutCorner(), 4);
            y.rule(0, heat);
            y.minutes(1);
            DUE.is("MINUTE (a): 0 at least, from " + heat, y.now(2), Math.max(0, heat - 1));
        }
    }

    private static void shovelsAreFirst() {
        int[] before = {0, 17, 18, 20};
        int[] behind = {2, 19, 19, 19};
        for (int i = 0; i < before.length; i++) {
            ChestnutCorner x = Scenes.until(new ChestnutCorner(), 3);
            x.shovel(1);
            x.minutes(6);
            x.rule(0, before[i]);
            x.minutes(1);
            DUE.is("MINUTE (a): warmer, then cooler, from " + before[i], x.now(2), behind[i]);
        }
    }

    private static void rim() {
        int[] at = {0, 1, 2, 3, 4, 5, 19, 20};
        int[][] want = {
            {0, 0, 1, 1, 2, 2, 9, 10}, {0, 0, 0, 0, 1, 1, 8, 9}, {0, 0, 2, 2, 3, 3, 10, 11}, {0, 0, 0, 0, 1, 1, 8, 9},
            {0, 0, 2, 2, 3, 3, 10, 11}, {0, 0, 1, 1, 2, 2, 9, 10}, {0, 0, 0, 0, 1, 1, 4, 5}};
        for (int kind = 0; kind <= 6; kind++) {
            for (int i = 0; i < at.length; i++) {
                DUE.is("MINUTE (b): " + KINDS[kind] + " on the rim at " + at[i],
                        roasted(kind, 0, Due.RIM, at[i]).of(0, 2), want[kind][i]);
            }
        }
    }

    private static void roastAtMost() {
        int[] places = {Due.PAN, Due.RIM};
        for (int place : places) {
            int heat = place == Due.PAN ? 5 : 10;
            int[] roasts = {993, 994, 995, 998, 999};
            int[] want = {998, 999, 999, 999, 999};
            for (int i = 0; i < roasts.length; i++) {
                DUE.is("MINUTE (b): 999 at most, from " + roasts[i] + " at place " + place,
                        roasted(Due.NUT, roasts[i], place, heat).of(0, 2), want[i]);
            }
        }
    }

    private static void roastsWhere() {
        int[] want = {0, 5, 2, 0, 0};
        for (int place = 0; place <= Due.GONE; place++) {
            DUE.is("MINUTE (b): at place " + place, roasted(Due.NUT, 0, place, 5).of(0, 2), want[place]);
        }
    }

    private static void ages() {
        for (int place = 0; place <= Due.GONE; place++) {
            ChestnutCorner x = one(Due.NUT, 0, place);
            x.change(0, 3, 4);
            x.minutes(1);
            DUE.is("MINUTE (c): age at place " + place, x.of(0, 3), place == Due.HEAP ? 5 : 4);
        }
    }

    private static void come() {
        int[][] edges = {
            // MANY, COLD, PRICE, COME
            {0, 9, 0, 0}, {1, 9, 0, 0}, {2, 9, 0, 1}, {10, 0, 0, 0}, {11, 0, 0, 1}, {11, 9, 0, 10}, {400, 0, 0, 36},
            {400, 9, 0, 363}, {400, 9, 99, 4}, {109, 9, 1, 99}, {110, 9, 1, 99}, {110, 9, 99, 1}, {2, 9, 99, 1},
            {110, 9, 50, 50}, {111, 9, 50, 50}, {56, 9, 50, 25}, {57, 9, 50, 26}};
        for (int[] e : edges) {
            ChestnutCorner x = new ChestnutCorner();
            x.crowd(0, 0, e[0]);
            x.rule(2, e[1]);
            x.rule(1, e[2]);
            DUE.is("COME: of " + e[0] + " at cold " + e[1] + ", price " + e[2], x.crowdOf(0, 3), e[3]);
            x.minutes(1);
            DUE.is("COME: so many go away", x.now(7), e[3]);
        }
    }

    /** Four bags are asked for in MINUTE 0: 8 * 6 / 11, less nothing. */
    private static ChestnutCorner four() {
        ChestnutCorner x = new ChestnutCorner();
        x.crowd(0, 0, 8);
        return x;
    }

    private static void sold(String what, ChestnutCorner x, int sold, int coin) {
        DUE.is("MINUTE (d): " + what + ": sold", x.minutes(1), sold);
        DUE.is("MINUTE (d): " + what + ": coin", x.now(1), coin);
        DUE.is("MINUTE (d): " + what + ": lost", x.now(7), 4 - sold);
    }

    private static void sellsReadyNotBurnt() {
        for (int kind = 0; kind <= 6; kind++) {
            int[] roasts = {READY[kind] - 1, READY[kind], BURNT[kind] - 1, BURNT[kind]};
            for (int i = 0; i < roasts.length; i++) {
                ChestnutCorner x = four();
                x.batch(kind);
                x.change(0, 2, roasts[i]);
                x.put(0, Due.HEAP);
                int bags = i == 1 || i == 2 ? 4 : 0;
                sold(KINDS[kind] + " with roast " + roasts[i], x, bags, bags * x.of(0, 7));
            }
        }
    }

    private static void sellsByAge() {
        // Those on the heap are a minute older when they are sold.
        int[] ages = {0, 9, 10, 24, 25, 999};
        int[] bags = {4, 4, 4, 4, 0, 0};
        int[] worth = {4, 4, 2, 2, 0, 0};
        for (int i = 0; i < ages.length; i++) {
            ChestnutCorner x = four();
            x.batch(Due.NUT);
            x.change(0, 2, 100);
            x.put(0, Due.HEAP);
            x.change(0, 3, ages[i]);
            sold("at age " + ages[i] + " and 1", x, bags[i], bags[i] * worth[i]);
        }
    }

    private static void sellsWhere() {
        for (int place = 0; place <= Due.GONE; place++) {
            ChestnutCorner x = four();
            x.rule(0, 0);
            x.batch(Due.NUT);
            x.change(0, 2, 100);
            x.put(0, place);
            x.change(0, 1, 9);
            int bags = place == Due.HEAP ? 4 : 0;
            sold("at place " + place, x, bags, 4 * bags);
        }
        for (int bags = 0; bags <= 5; bags++) {
            ChestnutCorner x = four();
            x.batch(Due.NUT);
            x.change(0, 2, 100);
            x.put(0, Due.HEAP);
            x.change(0, 1, bags);
            sold("of " + bags, x, Math.min(4, bags), 4 * Math.min(4, bags));
        }
    }

    /** Batches with 100 of roast on the heap, of these kinds, ages and bags. */
    private static ChestnutCorner heaped(int[] kinds, int[] ages, int[] bags) {
        ChestnutCorner x = four();
        for (int i = 0; i < kinds.length; i++) {
            x.batch(kinds[i]);
            x.change(i, 2, kinds[i] == Due.SWEET ? 140 : 100);
            x.put(i, Due.HEAP);
            x.change(i, 3, ages[i]);
            x.change(i, 1, bags[i]);
        }
        return x;
    }

    private static void sellsFromTheLeastAge() {
        int[] nuts = {Due.SWEET, Due.NUT, Due.WORMED};
        sold("the least age", heaped(nuts, new int[] {3, 2, 3}, new int[] {9, 9, 9}), 4, 4 * 4);
        sold("the least number of one age", heaped(nuts, new int[] {3, 3, 3}, new int[] {9, 9, 9}), 4, 4 * 6);
        sold("the next age", heaped(nuts, new int[] {5, 4, 3}, new int[] {9, 2, 1}), 4, 2 + 2 * 4 + 6);
        sold("the next number of one age", heaped(nuts, new int[] {3, 3, 3}, new int[] {1, 1, 9}), 4, 6 + 4 + 2 * 2);
        sold("not one with no bags", heaped(nuts, new int[] {3, 2, 3}, new int[] {9, 0, 9}), 4, 4 * 6);
        sold("good ones, then cool ones", heaped(nuts, new int[] {10, 9, 11}, new int[] {9, 2, 9}), 4, 2 * 4 + 2 * 3);
        sold("cool ones by age", heaped(nuts, new int[] {12, 11, 10}, new int[] {9, 2, 1}), 4, 1 + 2 * 2 + 3);
        sold("cool ones of one age", heaped(nuts, new int[] {12, 12, 12}, new int[] {1, 1, 9}), 4, 3 + 2 + 2);
        sold("stones are left", heaped(nuts, new int[] {25, 24, 25}, new int[] {9, 1, 9}), 1, 2);
    }

    private static void sellsForHalf() {
        int[] prices = {0, 1, 2, 3, 5};
        int[] nut = {0, 0, 1, 1, 2};
        int[] sweet = {1, 1, 2, 2, 3};
        int[] wormed = {0, 0, 0, 0, 1};
        for (int i = 0; i < prices.length; i++) {
            int[] kinds = {Due.NUT, Due.SWEET, Due.WORMED};
            int[] halves = {nut[i], sweet[i], wormed[i]};
            for (int j = 0; j < kinds.length; j++) {
                ChestnutCorner x = heaped(new int[] {kinds[j]}, new int[] {10}, new int[] {9});
                x.rule(1, prices[i]);
                sold("half of " + KINDS[kinds[j]] + " at " + prices[i], x, 4, 4 * halves[j]);
            }
        }
    }

    private static void comeWhere() {
        for (int corner = 0; corner <= 3; corner++) {
            ChestnutCorner x = new ChestnutCorner();
            x.crowd(corner, 0, 8);
            x.minutes(1);
            DUE.is("MINUTE (d): at corner " + corner, x.now(7), corner == 0 ? 4 : 0);
        }
        ChestnutCorner last = new ChestnutCorner();
        last.crowd(3, 9, 8);
        last.walk(3);
        last.minutes(10);
        DUE.is("MINUTE (d): at the last corner", last.now(7), 4);
    }

    private static void comeWhen() {
        for (int minute = 0; minute <= 3; minute++) {
            ChestnutCorner x = new ChestnutCorner();
            x.crowd(0, minute, 8);
            x.minutes(1);
            DUE.is("MINUTE (d): of minute " + minute + ", in 0", x.now(7), minute == 0 ? 4 : 0);
            x.minutes(2);
            DUE.is("MINUTE (d): of minute " + minute + ", up to 2", x.now(7), minute <= 2 ? 4 : 0);
        }
    }

    private static void crowdsByNumbers() {
        ChestnutCorner x = heaped(new int[] {Due.NUT}, new int[] {0}, new int[] {5});
        x.crowd(0, 0, 8);
        DUE.is("MINUTE (d): five for two crowds of four", x.minutes(1), 5);
        DUE.is("MINUTE (d): three go away", x.now(7), 3);
        ChestnutCorner last = new ChestnutCorner();
        for (int i = 0; i < 12; i++) {
            last.crowd(0, i == 11 ? 0 : 1, 8);
        }
        last.minutes(1);
        DUE.is("MINUTE (d): the 12th crowd", last.now(7), 4);
    }

    private static void walks() {
        for (int minute = 0; minute <= 4; minute++) {
            ChestnutCorner x = new ChestnutCorner();
            x.crowd(1, minute, 8);
            x.crowd(0, minute, 8);
            x.walk(1);
            x.minutes(5);
            DUE.is("MINUTE (d): it walks in the minutes 0 to 2: minute " + minute, x.now(7), minute > 2 ? 4 : 0);
        }
        ChestnutCorner y = new ChestnutCorner();
        y.walk(3);
        for (int i = 8; i >= -1; i--) {
            y.minutes(1);
            DUE.is("MINUTE (d): for one minute less", y.now(4), Math.max(0, i));
        }
    }

    private static void lastMinute() {
        ChestnutCorner x = new ChestnutCorner();
        x.crowd(0, 998, 8);
        x.crowd(0, 999, 200);
        Scenes.until(x, 998);
        DUE.is("MINUTE: 998 is yet to go", x.now(7), 0);
        DUE.is("MINUTE: it goes", x.minutes(1), 0);
        DUE.is("MINUTE: 999 at most", x.now(0), 999);
        DUE.is("MINUTE: who comes in 998", x.now(7), 4);
        DUE.is("MINUTE: 999 never goes", x.minutes(1), Due.STATE);
        DUE.is("MINUTE: nobody comes in it", x.now(7), 4);
    }

    private static void draws() {
        int[] seeds = {1, 0, -1, 2, 1103515245, Integer.MAX_VALUE, Integer.MIN_VALUE, 0x00FFFFFF, -987654321};
        for (int seed : seeds) {
            long next = (seed * 1103515245L + 12345L) & 0xFFFFFFFFL;
            int drawn = (int) (next / 256 % 7);
            ChestnutCorner x = new ChestnutCorner();
            for (int kind = 0; kind <= 6; kind++) {
                x.batch(kind);
                x.put(kind, Due.HEAP);
            }
            x.seed(seed);
            DUE.is("DRAWS: a bag, z being " + seed, x.boys(1), 1);
            DUE.is("DRAWS: z behind " + seed, x.count(7), (int) next);
            DUE.is("DRAWS: z >>> 8 behind " + seed + ", the rest by 7", x.of(drawn, 1), 8);
        }
    }
}
