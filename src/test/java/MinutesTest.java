/** Promises 14 to 19, and the minute of the terms: fire, roasting, bursting, ageing, selling. */
public final class MinutesTest {
    private static final Due DUE = new Due("MinutesTest");

    public static void main(String[] args) {
        minutes();
        fire();
        roasting();
        bursting();
        ageing();
        selling();
        halfWorth();
        order();
        tenBatches();
        walking();
        now();
        at();
        ahead();
        aheadFindings();
        ready();
        burnt();
        DUE.end();
    }

    private static void minutes() {
        ChestnutCorner x = new ChestnutCorner();
        DUE.is("14: none", x.minutes(0), Due.BEYOND);
        DUE.is("14: -1", x.minutes(-1), Due.BEYOND);
        DUE.is("14: 121", x.minutes(121), Due.BEYOND);
        for (int i = 0; i < 8; i++) {
            DUE.is("14: 120", x.minutes(120), 0);
        }
        DUE.is("14: above 999", x.minutes(40), Due.STATE);
        DUE.is("14: BEYOND is asked ahead of STATE", x.minutes(121), Due.BEYOND);
        DUE.is("14: nothing changes", x.now(0), 960);
        DUE.is("14: to 999", x.minutes(39), 0);
        DUE.is("14: 999", x.now(0), 999);
        DUE.is("14: 1000", x.minutes(1), Due.STATE);
    }

    private static void fire() {
        ChestnutCorner x = new ChestnutCorner();
        x.rule(0, 1);
        x.minutes(4);
        DUE.is("MINUTE (a): not yet cooler", x.now(2), 1);
        x.minutes(1);
        DUE.is("MINUTE (a): cooler", x.now(2), 0);
        x.minutes(5);
        DUE.is("MINUTE (a): 0 at least", x.now(2), 0);
        x.minutes(3);
        x.rule(0, 19);
        x.shovel(1);
        // MINUTE is 13: it cools at 14; the shovel warms at 19, when it cools too.
        x.minutes(6);
        DUE.is("MINUTE (a): cooled at 14", x.now(2), 18);
        x.minutes(1);
        DUE.is("MINUTE (a): 20 at most, and cooler then", x.now(2), 19);
    }

    private static void roasting() {
        ChestnutCorner x = Due.told("nut pan;large pan;small rim;old rim;nut;nut heap;heat 9");
        x.minutes(1);
        DUE.is("MINUTE (b): nut in the pan", x.of(0, 2), 9);
        DUE.is("MINUTE (b): large in the pan", x.of(1, 2), 8);
        DUE.is("MINUTE (b): small on the rim", x.of(2, 2), 5);
        DUE.is("MINUTE (b): old on the rim", x.of(3, 2), 2);
        DUE.is("MINUTE (b): in the sack", x.of(4, 2), 0);
        DUE.is("MINUTE (b): on the heap", x.of(5, 2), 0);
        x.change(0, 2, 995);
        x.minutes(1);
        DUE.is("MINUTE (b): 999 at most", x.of(0, 2), 999);
        x.change(0, 2, 0);
        x.minutes(3);
        DUE.is("MINUTE (b): the fire is first", x.of(0, 2), 9 + 9 + 8);
    }

    private static void bursting() {
        ChestnutCorner x = Due.told("raw roast 50 pan;raw roast 59 rim;small roast 60 pan;heat 8");
        x.change(0, 1, 7);
        x.minutes(1);
        DUE.is("BURSTS: 59 does not", x.of(0, 2), 59);
        DUE.is("BURSTS: 59 does not", x.of(0, 4), Due.PAN);
        x.minutes(1);
        DUE.is("BURSTS: 68 does", x.of(0, 4), Due.GONE);
        DUE.is("BURSTS: roast of that minute", x.of(0, 2), 68);
        DUE.is("BURSTS: its bags", x.of(0, 1), 0);
        DUE.is("BURSTS: are wasted", x.now(6), 7);
        DUE.is("BURSTS: not on the rim", x.of(1, 4), Due.RIM);
        DUE.is("BURSTS: not a small one", x.of(2, 4), Due.PAN);
        ChestnutCorner both = Due.told("raw roast 55 pan;raw roast 55 pan;heat 9");
        both.change(0, 1, 3);
        both.minutes(1);
        DUE.is("BURSTS: two in a minute", both.now(6), 3 + 9);
        ChestnutCorner y = Due.told("raw roast 90 pan;heat 7");
        y.minutes(3);
        DUE.is("BURSTS: not at 7", y.of(0, 4), Due.PAN);
        ChestnutCorner z = Due.told("raw roast 51 pan;heat 8");
        z.minutes(1);
        DUE.is("BURSTS: at 60", z.of(0, 4), Due.GONE);
    }

    private static void ageing() {
        ChestnutCorner x = Due.told("nut heap;nut pan;nut");
        x.minutes(12);
        DUE.is("MINUTE (c): on the heap", x.of(0, 3), 12);
        DUE.is("MINUTE (c): in the pan", x.of(1, 3), 0);
        DUE.is("MINUTE (c): in the sack", x.of(2, 3), 0);
    }

    private static void selling() {
        ChestnutCorner x = Due.told("nut roast 100 heap;sweet roast 179 heap;nut roast 99 heap;"
                + "nut roast 140 heap;crowd 22 at 0 minute 0");
        x.change(0, 3, 9);
        x.change(1, 3, 8);
        // 22 * 6 / 11 = 12 come; AGES are 10 and 9 when they buy: sweet first, 9 for 6, then 3 nuts for 4.
        DUE.is("MINUTE (d): sold", x.minutes(1), 12);
        DUE.is("MINUTE (d): coin", x.now(1), 66);
        DUE.is("MINUTE (d): least age first", x.of(1, 1), 0);
        DUE.is("MINUTE (d): then the next", x.of(0, 1), 6);
        DUE.is("MINUTE (d): not what is not ready", x.of(2, 1), 9);
        DUE.is("MINUTE (d): not what is burnt", x.of(3, 1), 9);
        DUE.is("MINUTE (d): none is lost", x.now(7), 0);
        x.crowd(0, 2, 22);
        x.crowd(1, 1, 22);
        DUE.is("MINUTE (d): another minute, another corner", x.minutes(1), 0);
        DUE.is("MINUTE (d): nobody there is lost", x.now(7), 0);
    }

    private static void halfWorth() {
        ChestnutCorner x = Due.told("wormed roast 100 heap;nut roast 100 heap;nut roast 100 heap;"
                + "price 5;crowd 44 at 0 minute 0");
        x.change(0, 3, 9);
        x.change(1, 3, 10);
        x.change(2, 3, 25);
        x.change(0, 1, 1);
        // 44 * 6 / 11 = 24, less 5 hundredths = 1: 23 come; 1 for 3, then 9 cool ones for 5 / 2; 13 go away.
        DUE.is("MINUTE (d): sold, good and cool", x.minutes(1), 10);
        DUE.is("MINUTE (d): half of worth", x.now(1), 3 + 9 * 2);
        DUE.is("MINUTE (d): lost", x.now(7), 13);
        DUE.is("MINUTE (d): a stone stays", x.of(2, 1), 9);
        DUE.is("MINUTE (d): sold ever", x.now(5), 10);
    }

    private static void order() {
        ChestnutCorner x = Due.told("nut roast 100 heap;sweet roast 150 heap;crowd 2 at 0 minute 0;crowd 2 at 0 minute 0");
        x.change(0, 1, 1);
        // One comes of each: the first one buys of the lower number, being of the same age.
        DUE.is("MINUTE (d): two crowds of a minute", x.minutes(1), 2);
        DUE.is("MINUTE (d): the least number of one age", x.of(0, 1), 0);
        DUE.is("MINUTE (d): then the next", x.now(1), 4 + 6);
    }

    private static void tenBatches() {
        ChestnutCorner x = new ChestnutCorner();
        for (int i = 0; i < 10; i++) {
            x.batch(Due.NUT);
            x.change(i, 1, 1);
            x.change(i, 2, 100);
            x.put(i, Due.HEAP);
            x.change(i, 3, i);
        }
        x.crowd(0, 0, 22);
        x.crowd(0, 1, 11);
        x.crowd(0, 1, 11);
        // Ages are 1 to 10: all are good.
        DUE.is("MINUTE (d): a bag of each", x.minutes(1), 10);
        DUE.is("MINUTE (d): for worth", x.now(1), 40);
        DUE.is("MINUTE (d): lost", x.now(7), 2);
        x.minutes(1);
        DUE.is("MINUTE (d): lost ever, of both", x.now(7), 2 + 6 + 6);
    }

    private static void walking() {
        ChestnutCorner x = Due.told("nut roast 100 heap;crowd 11 at 1 minute 2;crowd 11 at 1 minute 3;crowd 11 at 0 minute 0");
        x.walk(1);
        DUE.is("MINUTE (d): nothing is sold on the way", x.minutes(3), 0);
        DUE.is("MINUTE (d): nobody is lost on the way", x.now(7), 0);
        DUE.is("MINUTE (d): it has come", x.now(4), 0);
        DUE.is("MINUTE (d): and sells", x.minutes(1), 6);
    }

    private static void now() {
        ChestnutCorner x = Due.told("nut roast 100 heap;nut;crowd 20 at 2 minute 8");
        x.put(1, Due.GONE);
        x.shovel(3);
        x.walk(2);
        x.minutes(3);
        DUE.is("15: walks yet", x.now(4), 3);
        x.minutes(6);
        int[] want = {9, 36, 13, 2, 0, 9, 9, 1, 0};
        for (int what = 0; what < want.length; what++) {
            DUE.is("15: now(" + what + ")", x.now(what), want[what]);
        }
        DUE.is("15: now(-1)", x.now(-1), Due.BEYOND);
        DUE.is("15: now(9)", x.now(9), Due.BEYOND);
    }

    private static void at() {
        ChestnutCorner x = Due.told("nut;nut pan;nut rim;nut heap;nut;nut pan;nut rim;nut heap;nut;nut");
        x.put(4, Due.GONE);
        DUE.is("16: sack", x.at(0), 1 | 1 << 8 | 1 << 9);
        DUE.is("16: pan", x.at(1), 1 << 1 | 1 << 5);
        DUE.is("16: rim", x.at(2), 1 << 2 | 1 << 6);
        DUE.is("16: heap", x.at(3), 1 << 3 | 1 << 7);
        DUE.is("16: gone", x.at(4), 1 << 4);
        DUE.is("16: place -1", x.at(-1), Due.BEYOND);
        DUE.is("16: place 5", x.at(5), Due.BEYOND);
    }

    private static void ahead() {
        ChestnutCorner x = Due.told("nut roast 90 pan;small roast 100 rim;nut roast 100 heap;nut;"
                + "crowd 4 at 0 minute 0;crowd 40 at 0 minute 1;heat 9");
        x.put(3, Due.GONE);
        x.change(3, 1, 5);
        // 4 * 6 / 11 = 2 buy now.
        x.minutes(1);
        // 40 * 6 / 11 = 21: 7 buy, 14 are lost.
        DUE.is("17: coin had in them", x.ahead(1, 0), 28);
        DUE.is("17: bags sold in them", x.ahead(1, 1), 7);
        DUE.is("17: lost in them", x.ahead(1, 2), 14);
        DUE.is("17: lost in none", x.ahead(0, 2), 0);
        DUE.is("17: heat then", x.ahead(4, 3), 8);
        DUE.is("17: ready over the fire now", x.ahead(0, 4), 0);
        DUE.is("17: ready over the fire then", x.ahead(1, 4), 1);
        DUE.is("17: bags left", x.ahead(1, 5), 18);
        DUE.is("17: roast", x.ahead(1, 6), 108);
        DUE.is("17: roast on the rim", x.ahead(1, 7), 110);
        DUE.is("17: roast on the heap", x.ahead(200, 8), 100);
        DUE.is("17: nothing changes", x.now(0), 1);
        DUE.is("17: nothing is sold", x.now(5), 2);
        DUE.is("17: nothing roasts", x.of(0, 2), 99);
        x.minutes(1);
        DUE.is("17: lost was told alike", x.now(7), 14);
        DUE.is("17: lost in the next", x.ahead(5, 2), 0);
    }

    private static void aheadFindings() {
        ChestnutCorner x = Due.told("nut");
        DUE.is("17: n -1", x.ahead(-1, 0), Due.BEYOND);
        DUE.is("17: n 201", x.ahead(201, 0), Due.BEYOND);
        DUE.is("17: what -1", x.ahead(0, -1), Due.BEYOND);
        DUE.is("17: no such batch", x.ahead(0, 7), Due.BEYOND);
        DUE.is("17: far beyond", x.ahead(0, Integer.MAX_VALUE), Due.BEYOND);
        for (int i = 0; i < 8; i++) {
            x.minutes(100);
        }
        DUE.is("17: 1000", x.ahead(200, 0), Due.STATE);
        DUE.is("17: 999", x.ahead(199, 0), 0);
        DUE.is("17: BEYOND is asked ahead of STATE", x.ahead(200, 7), Due.BEYOND);
    }

    private static void ready() {
        ChestnutCorner x = Due.told("nut roast 90 pan;nut;raw roast 30 pan;nut roast 140 rim;heat 9");
        DUE.is("18: two minutes", x.ready(0), 2);
        DUE.is("18: asked again", x.ready(0), 2);
        DUE.is("18: in the sack", x.ready(1), Due.NONE);
        DUE.is("18: bursts first", x.ready(2), Due.NONE);
        DUE.is("18: burnt ones are ready", x.ready(3), 0);
        DUE.is("18: no such batch", x.ready(4), Due.BEYOND);
        DUE.is("18: batch -1", x.ready(-1), Due.BEYOND);
        DUE.is("18: nothing changes", x.now(0), 0);
        x.put(3, Due.GONE);
        DUE.is("18: gone", x.ready(3), Due.STATE);
        ChestnutCorner y = Due.told("raw roast 75 pan;heat 8");
        DUE.is("18: bursts just then", y.ready(0), Due.NONE);
        farReady();
    }

    /** On the rim at HEAT 2 or 3 a nut gets 1 a minute, down to HEAT 1 behind which nothing roasts. */
    private static void farReady() {
        ChestnutCorner x = Due.told("nut pan;heat 1");
        x.minutes(4);
        x.change(0, 2, 0);
        DUE.is("18: the fire is out", x.ready(0), Due.NONE);
        for (int i = 0; i < 8; i++) {
            x.minutes(99);
        }
        x.minutes(3);
        DUE.is("18: MINUTE 799", x.ready(0), Due.NONE);
        DUE.is("19: MINUTE 799", x.burnt(0), Due.NONE);
        x.minutes(1);
        DUE.is("18: MINUTE 800", x.ready(0), Due.STATE);
        DUE.is("19: MINUTE 800", x.burnt(0), Due.STATE);
        DUE.is("18: BEYOND is asked ahead of STATE", x.ready(1), Due.BEYOND);
        DUE.is("19: BEYOND is asked ahead of STATE", x.burnt(1), Due.BEYOND);
    }

    private static void burnt() {
        ChestnutCorner x = Due.told("nut roast 120 pan;nut;raw roast 30 pan;nut roast 140 rim;heat 9");
        DUE.is("19: three minutes", x.burnt(0), 3);
        DUE.is("19: asked again", x.burnt(0), 3);
        DUE.is("19: in the sack", x.burnt(1), Due.NONE);
        DUE.is("19: bursts", x.burnt(2), 3);
        DUE.is("19: now", x.burnt(3), 0);
        DUE.is("19: no such batch", x.burnt(4), Due.BEYOND);
        DUE.is("19: batch -1", x.burnt(-1), Due.BEYOND);
        x.put(3, Due.GONE);
        DUE.is("19: gone", x.burnt(3), Due.STATE);
    }
}
