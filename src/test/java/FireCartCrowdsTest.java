/** Promises 8 to 13: shovels, rules, the cart, the crowds. */
public final class FireCartCrowdsTest {
    private static final Due DUE = new Due("FireCartCrowdsTest");

    public static void main(String[] args) {
        shovel();
        rule();
        walk();
        crowd();
        crowdOf();
        late();
        DUE.end();
    }

    private static void shovel() {
        ChestnutCorner x = new ChestnutCorner();
        DUE.is("8: none", x.shovel(0), Due.BEYOND);
        DUE.is("8: ten", x.shovel(10), Due.BEYOND);
        DUE.is("8: one", x.shovel(1), 1);
        DUE.is("8: nine more", x.shovel(9), 10);
        x.minutes(6);
        DUE.is("8: they lag", x.now(2), 4);
        DUE.is("8: two more, later", x.shovel(2), 12);
        x.minutes(1);
        DUE.is("8: 20 at most", x.now(2), 20);
        DUE.is("8: the later ones are due yet", x.now(8), 2);
        x.rule(0, 0);
        x.minutes(6);
        DUE.is("8: the later ones warm", x.now(2), 6);
        DUE.is("8: none is due", x.now(8), 0);
        for (int i = 1; i <= 9; i++) {
            DUE.is("8: one each minute, 7 are due at most", x.shovel(1), Math.min(i, 7));
            x.minutes(1);
            DUE.is("8: due yet", x.now(8), Math.min(i, 6));
        }
    }

    private static void rule() {
        ChestnutCorner x = new ChestnutCorner();
        int[] first = {5, 4, 5};
        int[] most = {20, 99, 9};
        for (int what = 0; what <= 2; what++) {
            DUE.is("9: to the most", x.rule(what, most[what]), first[what]);
            DUE.is("9: above the most", x.rule(what, most[what] + 1), Due.BEYOND);
            DUE.is("9: below 0", x.rule(what, -1), Due.BEYOND);
            DUE.is("9: to 0", x.rule(what, 0), most[what]);
            DUE.is("9: from 0", x.rule(what, 1), 0);
        }
        DUE.is("9: what -1", x.rule(-1, 0), Due.BEYOND);
        DUE.is("9: what 3", x.rule(3, 0), Due.BEYOND);
        DUE.is("9: HEAT", x.now(2), 1);
        DUE.is("9: PRICE", x.count(4), 1);
        DUE.is("9: COLD", x.count(5), 1);
    }

    private static void walk() {
        ChestnutCorner x = new ChestnutCorner();
        DUE.is("10: corner -1", x.walk(-1), Due.BEYOND);
        DUE.is("10: corner 4", x.walk(4), Due.BEYOND);
        DUE.is("10: to where it stands", x.walk(0), 0);
        DUE.is("10: to the last", x.walk(3), 9);
        DUE.is("10: it walks", x.walk(3), Due.STATE);
        DUE.is("10: BEYOND is asked ahead of STATE", x.walk(4), Due.BEYOND);
        x.minutes(8);
        DUE.is("10: it walks yet", x.walk(1), Due.STATE);
        DUE.is("10: a minute yet", x.now(4), 1);
        x.minutes(1);
        DUE.is("10: it stands", x.now(4), 0);
        DUE.is("10: at the last corner", x.now(3), 3);
        DUE.is("10: and goes back", x.walk(1), 6);
    }

    private static void crowd() {
        ChestnutCorner x = new ChestnutCorner();
        DUE.is("11: corner -1", x.crowd(-1, 0, 0), Due.BEYOND);
        DUE.is("11: corner 4", x.crowd(4, 0, 0), Due.BEYOND);
        DUE.is("11: minute -1", x.crowd(0, -1, 0), Due.BEYOND);
        DUE.is("11: minute 1000", x.crowd(0, 1000, 0), Due.BEYOND);
        DUE.is("11: many -1", x.crowd(0, 0, -1), Due.BEYOND);
        DUE.is("11: many 401", x.crowd(0, 0, 401), Due.BEYOND);
        for (int i = 0; i < 12; i++) {
            DUE.is("11: crowd", x.crowd(3, 999, 400), i);
        }
        DUE.is("11: BEYOND is asked ahead of FULL", x.crowd(4, 0, 0), Due.BEYOND);
        DUE.is("11: a 13th", x.crowd(0, 0, 0), Due.FULL);
        DUE.is("11: no more than 12", x.count(1), 12);
    }

    private static void crowdOf() {
        ChestnutCorner x = new ChestnutCorner();
        x.crowd(2, 7, 50);
        DUE.is("12: CORNER", x.crowdOf(0, 0), 2);
        DUE.is("12: MINUTE", x.crowdOf(0, 1), 7);
        DUE.is("12: MANY", x.crowdOf(0, 2), 50);
        // 50 * 6 / 11 = 27, less 4 hundredths of 27 = 1
        DUE.is("12: come", x.crowdOf(0, 3), 26);
        x.rule(2, 9);
        // 50 * 10 / 11 = 45, less 1
        DUE.is("12: more when it is cold", x.crowdOf(0, 3), 44);
        x.rule(1, 99);
        // 45 less 44
        DUE.is("12: less when it is dear", x.crowdOf(0, 3), 1);
        x.rule(1, 0);
        DUE.is("12: all for nothing", x.crowdOf(0, 3), 45);
        x.rule(2, 0);
        DUE.is("12: few when it is warm", x.crowdOf(0, 3), 4);
        DUE.is("12: what -1", x.crowdOf(0, -1), Due.BEYOND);
        DUE.is("12: what 4", x.crowdOf(0, 4), Due.BEYOND);
        DUE.is("12: no such crowd", x.crowdOf(1, 0), Due.BEYOND);
        DUE.is("12: crowd -1", x.crowdOf(-1, 0), Due.BEYOND);
    }

    private static void late() {
        ChestnutCorner x = new ChestnutCorner();
        x.crowd(2, 7, 50);
        DUE.is("13: MINUTE", x.late(0, 1, 999), 7);
        DUE.is("13: MINUTE again", x.late(0, 1, 0), 999);
        DUE.is("13: MANY", x.late(0, 2, 400), 50);
        DUE.is("13: MANY again", x.late(0, 2, 0), 400);
        DUE.is("13: MINUTE 1000", x.late(0, 1, 1000), Due.BEYOND);
        DUE.is("13: MINUTE -1", x.late(0, 1, -1), Due.BEYOND);
        DUE.is("13: MANY 401", x.late(0, 2, 401), Due.BEYOND);
        DUE.is("13: MANY -1", x.late(0, 2, -1), Due.BEYOND);
        DUE.is("13: what 0", x.late(0, 0, 0), Due.BEYOND);
        DUE.is("13: what 3", x.late(0, 3, 0), Due.BEYOND);
        DUE.is("13: no such crowd", x.late(1, 1, 0), Due.BEYOND);
        DUE.is("13: crowd -1", x.late(-1, 1, 0), Due.BEYOND);
    }
}
