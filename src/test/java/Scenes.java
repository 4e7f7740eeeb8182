/** Objects to try edges on: the same one anew at each call. */
final class Scenes {
    /** MINUTES that Scenes.evening() has behind it. */
    static final int EVENING = 2;

    private Scenes() {
    }

    static ChestnutCorner empty() {
        return new ChestnutCorner();
    }

    /** BATCHES at each PLACE, CROWDS, SHOVELS on the way, SPOTS, SHEETS, THE TAPE and an image: all in use. */
    static ChestnutCorner evening() {
        ChestnutCorner x = Due.told("nut;nut roast 80 pan;raw roast 30 rim;nut roast 100 heap;sweet roast 150 heap;"
                + "old heap;heat 9");
        x.crowd(0, 1, 9);
        x.crowd(1, 8, 30);
        x.put(5, Due.GONE);
        x.shovel(1);
        x.minutes(EVENING);
        x.shovel(2);
        x.hold(3, 4);
        x.hold(8, 2);
        x.seed(-77);
        x.image();
        x.rule(1, 7);
        x.rule(2, 8);
        x.change(0, 1, 6);
        fillSheet(x, 0, 8, 4, 5, 6);
        fillSheet(x, 1, 16, 1, 2);
        fillSheet(x, 2, 8, 7, 0, 8, 3);
        Due.feed(x, "heat 3");
        return x;
    }

    private static void fillSheet(ChestnutCorner x, int s, int bits, int... numbers) {
        x.sheet(s, bits, numbers.length);
        for (int i = 0; i < numbers.length; i++) {
            x.write(s, i, numbers[i]);
        }
    }

    /** The evening while THE CART walks, for 6 MINUTES yet. */
    static ChestnutCorner walking() {
        ChestnutCorner x = evening();
        x.walk(2);
        return x;
    }

    /** 10 BATCHES (2 in the PAN, 4 on the RIM), 12 CROWDS, a full TAPE. */
    static ChestnutCorner full() {
        ChestnutCorner x = new ChestnutCorner();
        for (int i = 0; i < 10; i++) {
            x.batch(i % 7);
        }
        for (int i = 0; i < 6; i++) {
            x.put(i, i < 2 ? Due.PAN : Due.RIM);
        }
        for (int i = 0; i < 12; i++) {
            x.crowd(i % 4, i, 10 * i);
        }
        for (int i = 0; i < 30; i++) {
            x.feed(0x20202020, 4);
        }
        return x;
    }

    /** The same object when MINUTE is m. */
    static ChestnutCorner until(ChestnutCorner x, int m) {
        while (x.now(0) < m) {
            x.minutes(Math.min(120, m - x.now(0)));
        }
        return x;
    }

    static ChestnutCorner eveningAt(int m) {
        return until(evening(), m);
    }
}
