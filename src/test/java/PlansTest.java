/** Promises 20 to 32: when, where, how much. */
public final class PlansTest {
    private static final Due DUE = new Due("PlansTest");

    public static void main(String[] args) {
        putOn();
        putOnGreatest();
        putOnRoom();
        putOnReadyAlready();
        putOnFindings();
        takeOff();
        takeOffNotAtAll();
        takeOffFindings();
        shovels();
        corner();
        two();
        twoFindings();
        price();
        kindFor();
        heatFor();
        heatForFindings();
        brings();
        best();
        left();
        boys();
        seed();
        tooLate();
        fullHouse();
        DUE.end();
    }

    private static ChestnutCorner lateBy(ChestnutCorner x, int minute) {
        while (x.now(0) < minute) {
            x.minutes(Math.min(120, minute - x.now(0)));
        }
        return x;
    }

    private static void putOn() {
        // At HEAT 10, 9 from MINUTE 4 on, 20 more are due.
        ChestnutCorner x = Due.told("nut roast 80;heat 10");
        int[] want = {Due.NONE, Due.NONE, 0, 1, 2, Due.NONE, 3, 4};
        for (int m = 0; m < want.length; m++) {
            DUE.is("20: putOn(0, " + m + ")", x.putOn(0, m), want[m]);
        }
        DUE.is("20: it stays in the sack", x.of(0, 4), 0);
        ChestnutCorner raw = Due.told("raw roast 75;heat 9");
        DUE.is("20: bursts", raw.putOn(0, 1), Due.NONE);
    }

    private static void putOnGreatest() {
        ChestnutCorner x = Due.told("nut roast 91;heat 0");
        x.shovel(3);
        // It is cold until MINUTE 6, in which it is 9.
        DUE.is("20: the greatest", x.putOn(0, 7), 6);
        DUE.is("20: not earlier", x.putOn(0, 6), Due.NONE);
        x.minutes(3);
        DUE.is("20: the greatest from then on", x.putOn(0, 7), 3);
        DUE.is("20: behind that", x.putOn(0, 8), 4);
    }

    private static void putOnRoom() {
        ChestnutCorner x = Due.told("nut roast 80;nut pan;raw roast 55 pan;heat 10");
        DUE.is("20: no room yet", x.putOn(0, 2), Due.NONE);
        DUE.is("20: room when it has burst", x.putOn(0, 3), 1);
        x.change(2, 0, Due.SMALL);
        DUE.is("20: no room ever", x.putOn(0, 3), Due.NONE);
    }

    private static void putOnReadyAlready() {
        ChestnutCorner x = Due.told("nut roast 100");
        x.minutes(3);
        DUE.is("20: now", x.putOn(0, 3), 0);
        DUE.is("20: 60 later", x.putOn(0, 63), 60);
        DUE.is("20: 61 later", x.putOn(0, 64), Due.NONE);
        DUE.is("20: gone by", x.putOn(0, 2), Due.NONE);
    }

    private static void putOnFindings() {
        ChestnutCorner x = Due.told("nut roast 100;nut");
        DUE.is("20: m -1", x.putOn(0, -1), Due.BEYOND);
        DUE.is("20: m 1000", x.putOn(0, 1000), Due.BEYOND);
        DUE.is("20: m 999", x.putOn(0, 999), Due.NONE);
        DUE.is("20: no such batch", x.putOn(2, 0), Due.BEYOND);
        DUE.is("20: batch -1", x.putOn(-1, 0), Due.BEYOND);
        x.put(1, Due.HEAP);
        DUE.is("20: not in the sack", x.putOn(1, 0), Due.STATE);
        lateBy(x, 739);
        DUE.is("20: MINUTE 739", x.putOn(0, 799), 60);
        x.minutes(1);
        DUE.is("20: MINUTE 740", x.putOn(0, 790), Due.STATE);
        DUE.is("20: BEYOND is asked ahead of STATE", x.putOn(0, 1000), Due.BEYOND);
    }

    private static void takeOff() {
        ChestnutCorner x = Due.told("nut roast 95 pan;crowd 11 at 0 minute 3;heat 10");
        DUE.is("21: when it is ready", x.takeOff(0, 4), 1);
        DUE.is("21: nobody comes by then", x.takeOff(0, 3), 0);
        x.change(0, 2, 0);
        DUE.is("21: not ready by then", x.takeOff(0, 4), 0);
        x.change(0, 0, Due.SMALL);
        x.change(0, 2, 58);
        // 11 a minute: 69, 80, 91; sold at MINUTE 3 when taken off behind 2 or 3.
        DUE.is("21: a small one", x.takeOff(0, 4), 2);
        DUE.is("21: nothing changes", x.of(0, 4), Due.PAN);
        ChestnutCorner raw = Due.told("raw roast 55 pan;crowd 11 at 0 minute 3;heat 10");
        DUE.is("21: gone by then", raw.takeOff(0, 4), 0);
    }

    private static void takeOffNotAtAll() {
        // A nut taken off ahead of n would be sold instead of the sweet ones.
        ChestnutCorner x = Due.told("nut roast 100 rim;sweet roast 150 heap;crowd 11 at 0 minute 3;heat 0");
        DUE.is("21: not at all", x.takeOff(0, 4), 4);
        x.change(1, 0, Due.LARGE);
        DUE.is("21: all the same", x.takeOff(0, 4), 0);
        ChestnutCorner y = Due.told("nut roast 100 rim;nut roast 100 heap;crowd 200 at 0 minute 80;crowd 2 at 0 minute 0;heat 0");
        // From 55 on AGE is 25 at most at 80, from 70 on 10: 60 is the longest.
        DUE.is("21: half of worth from 56 on", y.takeOff(0, 81), 56);
        y.late(0, 1, 85);
        DUE.is("21: 60 has come", y.takeOff(0, 86), 0);
        y.late(0, 1, 70);
        DUE.is("21: worth from 61 on", y.takeOff(0, 71), 46);
        y.late(0, 1, 69);
        DUE.is("21: worth from 60 on", y.takeOff(0, 70), 60);
    }

    private static void takeOffFindings() {
        ChestnutCorner x = Due.told("nut pan;nut;nut heap");
        DUE.is("21: n 0", x.takeOff(0, 0), Due.BEYOND);
        DUE.is("21: n 121", x.takeOff(0, 121), Due.BEYOND);
        DUE.is("21: no such batch", x.takeOff(3, 1), Due.BEYOND);
        DUE.is("21: in the sack", x.takeOff(1, 1), Due.STATE);
        DUE.is("21: on the heap", x.takeOff(2, 1), Due.STATE);
        DUE.is("21: BEYOND is asked ahead of STATE", x.takeOff(1, 0), Due.BEYOND);
        DUE.is("21: n 120", x.takeOff(0, 120), 0);
    }

    private static void shovels() {
        ChestnutCorner x = Due.told("nut roast 95 pan;nut roast 100 heap;crowd 11 at 0 minute 3;heat 10");
        DUE.is("22: n 0", x.shovels(0), Due.BEYOND);
        DUE.is("22: n 121", x.shovels(121), Due.BEYOND);
        DUE.is("22: none is sold over the fire", x.shovels(120), 0);
        DUE.is("22: behind another plan", x.price(4), 66);
        DUE.is("22: none is sold over the fire, asked again", x.shovels(120), 0);
        DUE.is("22: nothing changes", x.now(8), 0);
    }

    private static void corner() {
        ChestnutCorner x = Due.told("nut roast 100 heap;crowd 4 at 0 minute 1;crowd 22 at 2 minute 6;crowd 22 at 3 minute 9");
        DUE.is("23: too far for 6", x.corner(6), 0);
        DUE.is("23: it has come by 7", x.corner(7), 2);
        DUE.is("23: the least of two", x.corner(10), 2);
        x.late(1, 2, 4);
        DUE.is("23: the least, staying too", x.corner(7), 0);
        DUE.is("23: further", x.corner(10), 3);
        DUE.is("23: n 0", x.corner(0), Due.BEYOND);
        DUE.is("23: n 121", x.corner(121), Due.BEYOND);
        DUE.is("23: it stays", x.now(3), 0);
        x.walk(1);
        DUE.is("23: it walks", x.corner(10), Due.STATE);
        DUE.is("23: BEYOND is asked ahead of STATE", x.corner(0), Due.BEYOND);
        x.minutes(2);
        DUE.is("23: it walks for a minute yet", x.corner(10), Due.STATE);
        DUE.is("24: it walks for a minute yet", x.two(1, 10), Due.STATE);
        x.minutes(1);
        DUE.is("23: from corner 1, none by then", x.corner(1), 0);
    }

    private static void two() {
        ChestnutCorner x = Due.told("nut roast 100 heap;nut roast 100 heap;nut roast 100 heap;"
                + "crowd 22 at 1 minute 3;crowd 22 at 0 minute 7");
        DUE.is("24: there and back", x.two(4, 8), 10);
        DUE.is("24: it walks behind 2", x.two(2, 8), 0);
        DUE.is("24: back too soon", x.two(3, 8), 0);
        x.late(1, 2, 20);
        DUE.is("24: to one, where nothing better follows", x.two(3, 8), 11);
        DUE.is("24: as far as it walks then", x.two(2, 8), 10);
        x.crowd(3, 10, 22);
        // At 10 they are cool: 12 for 2 each are more than 2 for 4 each.
        x.late(1, 2, 4);
        DUE.is("24: there and on", x.two(4, 11), 13);
        DUE.is("24: not by then", x.two(4, 10), 10);
        x.late(0, 2, 0);
        x.late(2, 1, 9);
        x.crowd(2, 13, 22);
        DUE.is("24: to the last one, and on", x.two(10, 14), 32);
    }

    private static void twoFindings() {
        ChestnutCorner x = Due.told("nut");
        DUE.is("24: k 0", x.two(0, 5), Due.BEYOND);
        DUE.is("24: k 61", x.two(61, 120), Due.BEYOND);
        DUE.is("24: n 121", x.two(60, 121), Due.BEYOND);
        DUE.is("24: n as much as k", x.two(5, 5), Due.BEYOND);
        DUE.is("24: n 0", x.two(1, 0), Due.BEYOND);
        DUE.is("24: n more than k", x.two(5, 6), 0);
        x.walk(3);
        DUE.is("24: it walks", x.two(5, 6), Due.STATE);
        DUE.is("24: BEYOND is asked ahead of STATE", x.two(5, 5), Due.BEYOND);
    }

    private static void price() {
        ChestnutCorner x = Due.told("nut roast 100 heap;crowd 22 at 0 minute 0");
        // Of 12 six come at 58: 348; seven at 49: 343.
        DUE.is("25: six at 58", x.price(1), 58);
        x.change(0, 1, 1);
        DUE.is("25: one at 99", x.price(1), 99);
        x.change(0, 1, 0);
        DUE.is("25: the least", x.price(120), 0);
        DUE.is("25: n 0", x.price(0), Due.BEYOND);
        DUE.is("25: n 121", x.price(121), Due.BEYOND);
        DUE.is("25: nothing changes", x.count(4), 4);
    }

    private static void kindFor() {
        ChestnutCorner x = Due.told("old roast 150 heap;crowd 22 at 0 minute 0");
        DUE.is("26: as a sweet one", x.kindFor(0, 1), Due.SWEET);
        x.change(0, 2, 100);
        DUE.is("26: as a nut", x.kindFor(0, 1), Due.NUT);
        x.change(0, 2, 90);
        DUE.is("26: as a small one", x.kindFor(0, 1), Due.SMALL);
        x.change(0, 2, 139);
        DUE.is("26: as a nut or a large one", x.kindFor(0, 1), Due.NUT);
        x.change(0, 2, 140);
        x.rule(1, 0);
        DUE.is("26: sweet ones for nothing bring 2", x.kindFor(0, 1), Due.SWEET);
        DUE.is("26: it stays", x.of(0, 0), Due.OLD);
        DUE.is("26: n 0", x.kindFor(0, 0), Due.BEYOND);
        DUE.is("26: n 121", x.kindFor(0, 121), Due.BEYOND);
        DUE.is("26: no such batch", x.kindFor(1, 1), Due.BEYOND);
        x.put(0, Due.GONE);
        DUE.is("26: gone, all the same", x.kindFor(0, 1), Due.NUT);
    }

    private static void heatFor() {
        ChestnutCorner x = Due.told("nut roast 90 pan;raw roast 75 pan;nut roast 95 rim;sweet roast 100 rim;heat 15");
        DUE.is("27: in one", x.heatFor(0, 1), 10);
        DUE.is("27: in two", x.heatFor(0, 2), 5);
        x.change(0, 2, 80);
        DUE.is("27: the most", x.heatFor(0, 1), 20);
        x.change(0, 2, 79);
        DUE.is("27: more than the most", x.heatFor(0, 1), Due.NONE);
        DUE.is("27: raw", x.heatFor(1, 1), 4);
        DUE.is("27: on the rim", x.heatFor(2, 1), 10);
        DUE.is("27: none is enough", x.heatFor(3, 4), Due.NONE);
        x.change(1, 2, 60);
        DUE.is("27: raw ones burst", x.heatFor(1, 1), Due.NONE);
        DUE.is("27: or don't", x.heatFor(1, 3), 6);
        x.change(0, 2, 100);
        DUE.is("27: ready already", x.heatFor(0, 1), 0);
        DUE.is("27: the heat stays", x.now(2), 15);
        x.minutes(4);
        x.change(0, 2, 90);
        DUE.is("27: cooler in this minute", x.heatFor(0, 1), 11);
    }

    private static void heatForFindings() {
        ChestnutCorner x = Due.told("nut;nut heap;nut pan");
        DUE.is("27: n 0", x.heatFor(2, 0), Due.BEYOND);
        DUE.is("27: n 121", x.heatFor(2, 121), Due.BEYOND);
        DUE.is("27: no such batch", x.heatFor(3, 1), Due.BEYOND);
        DUE.is("27: in the sack", x.heatFor(0, 1), Due.STATE);
        DUE.is("27: on the heap", x.heatFor(1, 1), Due.STATE);
        DUE.is("27: BEYOND is asked ahead of STATE", x.heatFor(0, 0), Due.BEYOND);
        x.put(2, Due.GONE);
        DUE.is("27: gone", x.heatFor(2, 1), Due.STATE);
    }

    private static void brings() {
        ChestnutCorner x = Due.told("nut roast 100 heap;crowd 11 at 0 minute 0;crowd 4 at 0 minute 1;crowd 40 at 1 minute 1");
        DUE.is("28: six", x.brings(0, 5), 24);
        DUE.is("28: two", x.brings(1, 5), 8);
        DUE.is("28: not by then", x.brings(1, 1), 0);
        DUE.is("28: elsewhere", x.brings(2, 5), 0);
        x.late(1, 2, 11);
        DUE.is("28: they share nine", x.brings(0, 5), 12);
        DUE.is("28: they share nine", x.brings(1, 5), 12);
        DUE.is("28: nothing changes", x.crowdOf(1, 2), 11);
        DUE.is("28: n 0", x.brings(0, 0), Due.BEYOND);
        DUE.is("28: n 121", x.brings(0, 121), Due.BEYOND);
        DUE.is("28: no such crowd", x.brings(3, 1), Due.BEYOND);
        DUE.is("28: crowd -1", x.brings(-1, 1), Due.BEYOND);
    }

    private static void best() {
        ChestnutCorner x = Due.told("nut roast 100 heap;crowd 4 at 0 minute 0;crowd 9 at 0 minute 1;crowd 40 at 1 minute 1");
        DUE.is("29: by 1", x.best(1), 0);
        DUE.is("29: by 2", x.best(2), 1);
        x.crowd(0, 1, 7);
        DUE.is("29: more than the next", x.best(2), 1);
        x.late(1, 2, 4);
        x.late(3, 2, 4);
        DUE.is("29: the least number", x.best(2), 0);
        x.walk(1);
        DUE.is("29: none brings a thing", x.best(2), 0);
        DUE.is("29: n 0", x.best(0), Due.BEYOND);
        DUE.is("29: n 121", x.best(121), Due.BEYOND);
        ChestnutCorner y = new ChestnutCorner();
        DUE.is("29: there is none", y.best(120), Due.NONE);
    }

    private static void left() {
        ChestnutCorner x = Due.told("raw roast 50 pan;nut;nut roast 100 heap;old;crowd 11 at 0 minute 0;heat 10");
        x.change(1, 1, 3);
        x.change(3, 1, 4);
        DUE.is("30: gone, and sold", x.left(1), 3);
        x.late(0, 2, 4);
        DUE.is("30: seven are left", x.left(1), 2);
        x.change(3, 1, 7);
        DUE.is("30: the least number", x.left(1), 2);
        x.change(0, 0, Due.SMALL);
        DUE.is("30: not gone", x.left(1), 0);
        DUE.is("30: n 0", x.left(0), Due.BEYOND);
        DUE.is("30: n 121", x.left(121), Due.BEYOND);
        ChestnutCorner y = Due.told("nut");
        y.change(0, 1, 0);
        DUE.is("30: one with no bags", y.left(120), 0);
        y.put(0, Due.GONE);
        y.change(0, 1, 9);
        DUE.is("30: there is none", y.left(120), Due.NONE);
    }

    private static void boys() {
        ChestnutCorner x = new ChestnutCorner();
        DUE.is("31: n 0", x.boys(0), Due.BEYOND);
        DUE.is("31: n 13", x.boys(13), Due.BEYOND);
        DUE.is("31: no batch", x.boys(1), Due.STATE);
        DUE.is("31: no draw either", x.count(7), 1);
        x.batch(0);
        DUE.is("31: in the sack", x.boys(1), 0);
        DUE.is("31: but drawn", x.count(7), 1103527590);
        x.put(0, Due.HEAP);
        DUE.is("31: all it has", x.boys(12), 9);
        DUE.is("31: none is left", x.of(0, 1), 0);
        DUE.is("31: not wasted", x.now(6), 0);
        DUE.is("31: not sold", x.now(5), 0);
        ChestnutCorner y = Due.told("nut heap;nut pan;nut heap;nut heap;nut heap");
        y.seed(-99);
        int z = -99;
        int[] bags = {9, 9, 9, 9, 9};
        for (int i = 1; i <= 12; i++) {
            int taken = 0;
            for (int j = 0; j < i; j++) {
                z = (int) (z * 1103515245L + 12345L);
                int batch = (int) ((z & 0xFFFFFFFFL) / 256 % 5);
                if (batch != 1 && bags[batch] > 0) {
                    bags[batch]--;
                    taken++;
                }
            }
            DUE.is("31: boys(" + i + ")", y.boys(i), taken);
        }
        for (int batch = 0; batch < 5; batch++) {
            DUE.is("31: bags of " + batch, y.of(batch, 1), bags[batch]);
        }
    }

    private static void seed() {
        ChestnutCorner x = new ChestnutCorner();
        DUE.is("32: 1 at first", x.seed(Integer.MIN_VALUE), 1);
        DUE.is("32: any int", x.seed(-1000001), Integer.MIN_VALUE);
        DUE.is("32: that is no finding", x.seed(0), -1000001);
        DUE.is("32: that is no finding", x.status(-1), 0);
    }

    /** As many batches and crowds as there may be: each call goes through all of them. */
    private static void fullHouse() {
        ChestnutCorner x = new ChestnutCorner();
        for (int i = 0; i < 10; i++) {
            x.batch(Due.NUT);
            x.change(i, 2, 100);
            x.change(i, 1, i == 9 ? 9 : 8);
        }
        for (int i = 0; i < 12; i++) {
            x.crowd(0, 1, i == 11 ? 3 : 2);
        }
        x.put(9, Due.RIM);
        DUE.is("16: all but one in the sack", x.at(0), 511);
        DUE.is("17: the last one is done", x.ahead(0, 4), 512);
        DUE.is("17: bags left", x.ahead(0, 5), 81);
        DUE.is("46: BAGS of all", x.count(2), 81);
        DUE.is("46: MANY of all", x.count(3), 25);
        DUE.is("30: the last one", x.left(120), 9);
        DUE.is("21: the last one, by MINUTE 1", x.takeOff(9, 2), 0);
        x.put(9, Due.HEAP);
        x.late(11, 2, 4);
        // Of all others one comes, of the last one two.
        DUE.is("29: bags not being enough, none brings a thing", x.best(2), 0);
        x.change(8, 2, 110);
        x.put(8, Due.HEAP);
        DUE.is("29: the last one brings most, bags being enough", x.best(2), 11);
        DUE.is("14: all of them buy", x.minutes(2), 13);
    }

    private static void tooLate() {
        ChestnutCorner x = lateBy(Due.told("nut pan;crowd 1 at 0 minute 990"), 980);
        DUE.is("21: 1000", x.takeOff(0, 20), Due.STATE);
        DUE.is("21: 999", x.takeOff(0, 19), 0);
        DUE.is("22: 1000", x.shovels(20), Due.STATE);
        DUE.is("22: 999", x.shovels(19), 0);
        DUE.is("23: 1000", x.corner(20), Due.STATE);
        DUE.is("23: 999", x.corner(19), 0);
        DUE.is("24: 1000", x.two(1, 20), Due.STATE);
        DUE.is("24: 999", x.two(1, 19), 0);
        DUE.is("25: 1000", x.price(20), Due.STATE);
        DUE.is("25: 999", x.price(19), 0);
        DUE.is("26: 1000", x.kindFor(0, 20), Due.STATE);
        DUE.is("26: 999", x.kindFor(0, 19), 0);
        DUE.is("27: 1000", x.heatFor(0, 20), Due.STATE);
        DUE.is("27: 999", x.heatFor(0, 1), Due.NONE);
        DUE.is("28: 1000", x.brings(0, 20), Due.STATE);
        DUE.is("28: 999", x.brings(0, 19), 0);
        DUE.is("29: 1000", x.best(20), Due.STATE);
        DUE.is("29: 999", x.best(19), 0);
        DUE.is("30: 1000", x.left(20), Due.STATE);
        DUE.is("30: 999", x.left(19), 0);
        ChestnutCorner none = lateBy(new ChestnutCorner(), 980);
        DUE.is("29: STATE is asked ahead of NONE", none.best(20), Due.STATE);
        DUE.is("30: STATE is asked ahead of NONE", none.left(20), Due.STATE);
    }
}
