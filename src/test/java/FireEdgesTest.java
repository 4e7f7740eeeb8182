/** The edges of promises 8 to 13: each sentence that names one, by itself. */
public final class FireEdgesTest {
    private static final Due DUE = new Due("FireEdgesTest");
    private static final Edge EVENING = new Edge(DUE, Scenes::evening);
    private static final Edge FULL = new Edge(DUE, Scenes::full);
    private static final Edge EMPTY = new Edge(DUE, Scenes::empty);
    private static final Edge WALKING = new Edge(DUE, Scenes::walking);

    public static void main(String[] args) {
        shovel();
        shovelDue();
        rule();
        walk();
        walkState();
        crowd();
        crowdFull();
        crowdOf();
        late();
        lateMoves();
        DUE.end();
    }

    private static void shovel() {
        EVENING.range("8: n", 1, 9, ChestnutCorner::shovel);
        EVENING.tells("8: one more is due", 4, x -> x.shovel(1));
        EVENING.tells("8: nine more are due", 12, x -> x.shovel(9));
        EMPTY.tells("8: the least", 1, x -> x.shovel(1));
        EMPTY.tells("8: the most", 9, x -> x.shovel(9));
    }

    private static void shovelDue() {
        ChestnutCorner x = new ChestnutCorner();
        x.shovel(3);
        x.minutes(6);
        DUE.is("8: due until the 7th minute", x.now(8), 3);
        x.minutes(1);
        DUE.is("8: due no more", x.now(8), 0);
        DUE.is("8: those of before don't count", x.shovel(2), 2);
        for (int m = 0; m <= 7; m++) {
            ChestnutCorner y = Scenes.until(new ChestnutCorner(), m);
            DUE.is("8: put on in minute " + m, y.shovel(4), 4);
            y.minutes(6);
            DUE.is("8: due for 6 minutes from minute " + m, y.now(8), 4);
            y.minutes(1);
            DUE.is("8: not for 7 from minute " + m, y.now(8), 0);
        }
        ChestnutCorner last = Scenes.until(new ChestnutCorner(), 999);
        DUE.is("8: in the last minute, too", last.shovel(9), 9);
        DUE.is("8: they are due for ever", last.shovel(9), 18);
    }

    private static void rule() {
        int[] most = {20, 99, 9};
        for (int i = 0; i <= 2; i++) {
            int what = i;
            EVENING.range("9: what " + what + ", v", 0, most[what], (x, v) -> x.rule(what, v));
        }
        EVENING.range("9: what", 0, 2, (x, v) -> x.rule(v, 0));
        EMPTY.asks("9: heat as it is", 5, x -> x.rule(0, 5));
        EMPTY.asks("9: price as it is", 4, x -> x.rule(1, 4));
        EMPTY.asks("9: cold as it is", 5, x -> x.rule(2, 5));
        ChestnutCorner x = Scenes.evening();
        x.rule(0, 0);
        x.rule(1, 99);
        x.rule(2, 9);
        DUE.is("9: the least heat", x.now(2), 0);
        DUE.is("9: the highest price", x.count(4), 99);
        DUE.is("9: the greatest cold", x.count(5), 9);
    }

    private static void walk() {
        EVENING.range("10: corner", 0, 3, ChestnutCorner::walk);
        EMPTY.asks("10: to where it stands: no minute", 0, x -> x.walk(0));
        for (int i = 0; i <= 3; i++) {
            for (int j = 0; j <= 3; j++) {
                ChestnutCorner x = Scenes.until(walkedTo(i), 20);
                DUE.is("10: from " + i + " to " + j, x.walk(j), 3 * Math.abs(i - j));
                DUE.is("10: walks from " + i + " to " + j, x.now(4), 3 * Math.abs(i - j));
                DUE.is("10: it goes there", x.now(3), j);
            }
        }
    }

    private static ChestnutCorner walkedTo(int corner) {
        ChestnutCorner x = new ChestnutCorner();
        x.walk(corner);
        return x;
    }

    private static void walkState() {
        for (int i = 0; i <= 3; i++) {
            int corner = i;
            WALKING.refused("10: it walks, to " + i, Due.STATE, x -> x.walk(corner));
        }
        WALKING.beyond("10: BEYOND is asked ahead of STATE: corner", 0, 3, ChestnutCorner::walk);
        new Edge(DUE, () -> afterMinutes(5)).refused("10: it walks for one minute yet", Due.STATE, x -> x.walk(0));
        new Edge(DUE, () -> afterMinutes(6)).tells("10: it walks no more", 6, x -> x.walk(0));
        ChestnutCorner x = new ChestnutCorner();
        x.walk(0);
        DUE.is("10: to where it stands is no walk", x.walk(1), 3);
    }

    private static ChestnutCorner afterMinutes(int n) {
        ChestnutCorner x = Scenes.walking();
        x.minutes(n);
        return x;
    }

    private static void crowd() {
        EVENING.range("11: corner", 0, 3, (x, v) -> x.crowd(v, 0, 0));
        EVENING.range("11: minute", 0, 999, (x, v) -> x.crowd(0, v, 0));
        EVENING.range("11: many", 0, 400, (x, v) -> x.crowd(0, 0, v));
        EVENING.tells("11: its number is the next", 2, x -> x.crowd(0, 0, 0));
        EMPTY.tells("11: the first number is 0", 0, x -> x.crowd(3, 999, 400));
        ChestnutCorner x = Scenes.evening();
        x.crowd(3, 999, 400);
        DUE.is("11: the last corner", x.crowdOf(2, 0), 3);
        DUE.is("11: the last minute", x.crowdOf(2, 1), 999);
        DUE.is("11: the most", x.crowdOf(2, 2), 400);
        DUE.is("11: a minute that is over already", x.crowd(0, 0, 9), 3);
    }

    private static void crowdFull() {
        FULL.refused("11: full", Due.FULL, x -> x.crowd(0, 0, 0));
        FULL.refused("11: BEYOND is asked ahead of FULL: corner", Due.BEYOND, x -> x.crowd(4, 0, 0));
        FULL.refused("11: BEYOND is asked ahead of FULL: minute", Due.BEYOND, x -> x.crowd(0, 1000, 0));
        FULL.refused("11: BEYOND is asked ahead of FULL: many", Due.BEYOND, x -> x.crowd(0, 0, -1));
        ChestnutCorner x = new ChestnutCorner();
        for (int i = 0; i < 11; i++) {
            x.crowd(0, 0, 0);
        }
        DUE.is("11: the 12th", x.crowd(0, 0, 0), 11);
        DUE.is("11: the 13th", x.crowd(0, 0, 0), Due.FULL);
        x.minutes(1);
        DUE.is("11: one that has come has its number yet", x.crowd(0, 0, 0), Due.FULL);
    }

    private static void crowdOf() {
        EVENING.range("12: crowd", 0, 1, (x, v) -> x.crowdOf(v, 0));
        EVENING.range("12: what", 0, 3, (x, v) -> x.crowdOf(0, v));
        FULL.range("12: crowd of 12", 0, 11, (x, v) -> x.crowdOf(v, 3));
        EMPTY.refused("12: there is none", Due.BEYOND, x -> x.crowdOf(0, 0));
        // 30 * 9 / 11 = 24, less 24 * 7 / 100 = 1
        int[] want = {1, 8, 30, 23};
        for (int i = 0; i <= 3; i++) {
            int what = i;
            EVENING.asks("12: what " + i, want[i], x -> x.crowdOf(1, what));
        }
        FULL.asks("12: none of none come", 0, x -> x.crowdOf(0, 3));
    }

    private static void late() {
        EVENING.range("13: minute", 0, 999, (x, v) -> x.late(0, 1, v));
        EVENING.range("13: many", 0, 400, (x, v) -> x.late(0, 2, v));
        EVENING.range("13: what", 1, 2, (x, v) -> x.late(0, v, 0));
        EVENING.range("13: crowd", 0, 1, (x, v) -> x.late(v, 1, 0));
        EVENING.refused("13: its corner stays", Due.BEYOND, x -> x.late(0, 0, 1));
        EVENING.refused("13: what comes of it is not told", Due.BEYOND, x -> x.late(0, 3, 1));
        EMPTY.refused("13: there is none", Due.BEYOND, x -> x.late(0, 1, 0));
        EVENING.asks("13: to the minute that it was", 8, x -> x.late(1, 1, 8));
        EVENING.asks("13: to as many as it was", 30, x -> x.late(1, 2, 30));
    }

    private static void lateMoves() {
        ChestnutCorner x = Due.told("nut roast 100 heap;crowd 4 at 0 minute 0;crowd 4 at 0 minute 0");
        x.late(0, 1, 1);
        DUE.is("13: the other one comes now", x.minutes(1), 2);
        DUE.is("13: and it later", x.minutes(1), 2);
        x.late(0, 1, 2);
        DUE.is("13: it may come again", x.minutes(1), 2);
    }
}
