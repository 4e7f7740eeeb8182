import java.util.function.Supplier;

/** The edges of promises 36 to 42: each sentence that names one, by itself. */
public final class SheetEdgesTest {
    private static final Due DUE = new Due("SheetEdgesTest");
    private static final Edge EVENING = new Edge(DUE, Scenes::evening);
    private static final Edge FULL = new Edge(DUE, Scenes::full);
    private static final Edge EMPTY = new Edge(DUE, Scenes::empty);

    public static void main(String[] args) {
        hold();
        holdAll();
        as();
        asKinds();
        sheet();
        sheetOrder();
        sheetAnew();
        write();
        lowestBits();
        copy();
        copyFits();
        copyOrder();
        copyOverlapping();
        load();
        loadEnds();
        judge();
        judgeState();
        judgePlaces();
        DUE.end();
    }

    private static void hold() {
        EVENING.range("36: spot", 0, 9, (x, v) -> x.hold(v, 0));
        EVENING.range("36: batch", -1, 5, (x, v) -> x.hold(0, v));
        FULL.range("36: batch of 10", -1, 9, (x, v) -> x.hold(0, v));
        EMPTY.refused("36: there is no batch", Due.BEYOND, x -> x.hold(0, 0));
        EMPTY.asks("36: nothing again", 1, x -> x.hold(9, -1));
        EVENING.asks("36: the same batch again", 1, x -> x.hold(3, 4));
        EVENING.tells("36: one that is gone", 1, x -> x.hold(0, 5));
    }

    private static void holdAll() {
        ChestnutCorner x = Scenes.full();
        for (int i = 0; i <= 9; i++) {
            x.hold(i, 9 - i);
            DUE.is("46: spots that hold something", x.count(8), i + 1);
        }
        for (int i = 0; i <= 9; i++) {
            DUE.is("37: what spot " + i + " holds", x.as(i, 0), 9 - i);
        }
        x.hold(4, -1);
        DUE.is("37: it holds nothing now", x.as(4, 0), Due.MISSING);
        DUE.is("46: one less", x.count(8), 9);
        x.hold(3, 0);
        DUE.is("37: another one now", x.as(3, 0), 0);
        DUE.is("46: as many", x.count(8), 9);
    }

    private static void as() {
        EVENING.beyond("37: spot", 0, 9, (x, v) -> x.as(v, 0));
        Edge held = new Edge(DUE, () -> {
            ChestnutCorner x = Scenes.evening();
            x.hold(0, 5);
            x.hold(9, 5);
            return x;
        });
        held.asks("37: the first spot", 5, x -> x.as(0, 0));
        held.asks("37: the last spot", 5, x -> x.as(9, 0));
        held.asks("37: the least kind", 5, x -> x.as(0, 0));
        held.asks("37: the greatest kind", 5, x -> x.as(0, 6));
        held.beyond("37: kind", 0, 6, (x, v) -> x.as(0, v));
        EVENING.refused("37: it holds nothing", Due.MISSING, x -> x.as(0, 6));
        EVENING.beyond("37: BEYOND is asked ahead of MISSING: kind", 0, 6, (x, v) -> x.as(0, v));
        EVENING.beyond("37: BEYOND is asked ahead of KIND: kind", 0, 6, (x, v) -> x.as(3, v));
        EVENING.refused("37: it isn't of that kind", Due.KIND, x -> x.as(3, 2));
        EMPTY.refused("37: it holds nothing at first", Due.MISSING, x -> x.as(9, 0));
    }

    private static void asKinds() {
        int[] above = {-1, 0, 0, 1, 2, 0, 5};
        for (int kind = 0; kind <= 6; kind++) {
            for (int asked = 0; asked <= 6; asked++) {
                boolean is = false;
                for (int k = kind; k >= 0; k = above[k]) {
                    is |= k == asked;
                }
                int of = kind;
                int as = asked;
                Edge one = new Edge(DUE, () -> {
                    ChestnutCorner x = new ChestnutCorner();
                    x.batch(of);
                    x.hold(5, 0);
                    return x;
                });
                if (is) {
                    one.asks("37: kind " + kind + " as one of " + asked, 0, x -> x.as(5, as));
                } else {
                    one.refused("37: kind " + kind + " as one of " + asked, Due.KIND, x -> x.as(5, as));
                }
            }
        }
    }

    private static void sheet() {
        EVENING.range("38: sheet", 0, 3, (x, v) -> x.sheet(v, 8, 1));
        for (int bits : new int[] {8, 16, 32}) {
            EVENING.tells("38: none of " + bits + " bits", 0, x -> x.sheet(0, bits, 0));
            EVENING.tells("38: 40 of " + bits + " bits", 40, x -> x.sheet(0, bits, 40));
            tooSmallTooLarge(bits);
        }
        EVENING.tells("38: missing", 0, x -> x.sheet(0, 0, 0));
        EVENING.tells("38: missing, n being 40", 0, x -> x.sheet(0, 0, 40));
        tooSmallTooLarge(0);
        EMPTY.asks("38: missing already", 0, x -> x.sheet(3, 0, 7));
        int[] others = {-32, -16, -8, -1, 1, 4, 7, 9, 15, 17, 24, 31, 33, 64, Integer.MAX_VALUE, Integer.MIN_VALUE};
        for (int bits : others) {
            EVENING.refused("38: " + bits + " bits", Due.BEYOND, x -> x.sheet(0, bits, 1));
        }
    }

    private static void tooSmallTooLarge(int bits) {
        for (int n : new int[] {-1, Integer.MIN_VALUE}) {
            EVENING.refused("38: " + n + " of " + bits + " bits", Due.SIZE, x -> x.sheet(0, bits, n));
        }
        for (int n : new int[] {41, Integer.MAX_VALUE}) {
            EVENING.refused("38: " + n + " of " + bits + " bits", Due.BEYOND, x -> x.sheet(0, bits, n));
        }
    }

    private static void sheetOrder() {
        EVENING.refused("38: BEYOND, no such sheet, is asked ahead of SIZE", Due.BEYOND, x -> x.sheet(4, 8, -1));
        EVENING.refused("38: BEYOND, no such sheet, is asked ahead of SIZE", Due.BEYOND, x -> x.sheet(-1, 0, -1));
        EVENING.refused("38: BEYOND, other bits, is asked ahead of SIZE", Due.BEYOND, x -> x.sheet(0, 9, -1));
    }

    private static void sheetAnew() {
        ChestnutCorner x = Scenes.evening();
        x.sheet(0, 8, 3);
        DUE.is("38: all 0", x.load(0), 3);
        for (int batch = 0; batch < 3; batch++) {
            DUE.is("38: number " + batch + " is 0", x.of(batch, 1), 0);
        }
        DUE.is("38: the others stay", x.load(1), 2);
        DUE.is("38: the others stay", x.of(1, 1), 2);
        DUE.is("38: number 3 is no more", x.write(0, 3, 0), Due.BEYOND);
        x.sheet(0, 0, 3);
        DUE.is("38: missing, it has no number", x.write(0, 0, 0), Due.MISSING);
        DUE.is("38: missing, it is not copied", x.copy(0, 0, 2, 0, 0), Due.MISSING);
        x.sheet(0, 8, 40);
        DUE.is("38: its last number", x.write(0, 39, 1), 1);
        DUE.is("38: the last one that is not", x.write(0, 40, 1), Due.BEYOND);
        x.sheet(0, 8, 0);
        DUE.is("38: with no number it is not missing", x.load(0), 0);
        DUE.is("38: but has none", x.write(0, 0, 0), Due.BEYOND);
    }

    private static void write() {
        EVENING.tells("39: the first sheet", 1, x -> x.write(0, 0, 1));
        EVENING.tells("39: the third sheet", 1, x -> x.write(2, 3, 1));
        EVENING.range("39: number of three", 0, 2, (x, v) -> x.write(0, v, 1));
        EVENING.range("39: number of two", 0, 1, (x, v) -> x.write(1, v, 1));
        EVENING.refused("39: missing", Due.MISSING, x -> x.write(3, 0, 1));
        EVENING.beyond("39: BEYOND, no such sheet, is asked ahead of MISSING: sheet", 0, 3, (x, v) -> x.write(v, 0, 1));
        EVENING.refused("39: MISSING is asked ahead of BEYOND, no such number", Due.MISSING, x -> x.write(3, 40, 1));
        EVENING.refused("39: MISSING is asked ahead of BEYOND, no such number", Due.MISSING, x -> x.write(3, -1, 1));
        EVENING.asks("39: what it is already", 1, x -> x.write(0, 1, 5));
        for (int v : new int[] {Integer.MIN_VALUE, -1, 0, Integer.MAX_VALUE}) {
            EVENING.tells("39: any v, " + v, 1, x -> x.write(1, 1, v));
        }
    }

    /** What a number of some bits has become, as load() tells it: BAGS, or -1 if it isn't 0 to 9. */
    private static int become(int bits, int v) {
        ChestnutCorner x = Due.told("nut");
        x.sheet(2, bits, 1);
        x.write(2, 0, v);
        return x.load(2) == 1 ? x.of(0, 1) : -1;
    }

    private static void lowestBits() {
        int[] vs = {0, 9, 10, -1, 127, 128, 255, 256, 265, 266, 511, -256, -247, 0x7F09, 0x8000, 0xFFFF, 0x10000,
            0x10009, 0x1000A, 0x12340005, 0x7FFF0003, 0x80000004, 0xFFFF0006, 0xFFFFFF07,
            Integer.MAX_VALUE, Integer.MIN_VALUE};
        for (int v : vs) {
            int low8 = v & 255;
            int low16 = v & 65535;
            DUE.is("39: " + v + " of 8 bits", become(8, v), low8 <= 9 ? low8 : -1);
            DUE.is("39: " + v + " of 16 bits", become(16, v), low16 <= 9 ? low16 : -1);
            DUE.is("39: " + v + " of 32 bits", become(32, v), v >= 0 && v <= 9 ? v : -1);
        }
        ChestnutCorner x = Due.told("nut roast 100 heap;crowd 4 at 0 minute 0");
        for (int bits : new int[] {8, 16, 32}) {
            x.sheet(0, bits, 1);
            x.write(0, 0, 2 + 256);
            DUE.is("42: two and 256 of " + bits + " bits", x.judge(0), bits == 8 ? 0 : 1);
            x.write(0, 0, 2 - 65536);
            DUE.is("42: two less 65536 of " + bits + " bits", x.judge(0), bits == 32 ? 1 : 0);
        }
    }

    /** Sheets 0 (5 numbers) and 1 (3 numbers) of 8 bits, 2 of 16 bits; 3 is missing. */
    private static ChestnutCorner sheets() {
        ChestnutCorner x = Due.told("nut;nut;nut;nut;nut");
        x.sheet(0, 8, 5);
        x.sheet(1, 8, 3);
        x.sheet(2, 16, 5);
        for (int i = 0; i < 5; i++) {
            x.write(0, i, i + 1);
            x.write(1, i, i + 6);
            x.write(2, i, 9);
        }
        return x;
    }

    private static final Edge SHEETS = new Edge(DUE, SheetEdgesTest::sheets);

    private static void copy() {
        SHEETS.beyond("40: sheet", 0, 3, (x, v) -> x.copy(v, 0, 0, 0, 0));
        SHEETS.beyond("40: other sheet", 0, 3, (x, v) -> x.copy(0, 0, v, 0, 0));
        SHEETS.refused("40: the sheet is missing", Due.MISSING, x -> x.copy(3, 0, 0, 0, 0));
        SHEETS.refused("40: the other one is missing", Due.MISSING, x -> x.copy(0, 0, 3, 0, 0));
        SHEETS.refused("40: both are missing", Due.MISSING, x -> x.copy(3, 0, 3, 0, 0));
        SHEETS.refused("40: 8 bits to 16", Due.KIND, x -> x.copy(0, 0, 2, 0, 1));
        SHEETS.refused("40: 16 bits to 8", Due.KIND, x -> x.copy(2, 0, 0, 0, 1));
        SHEETS.refused("40: none of other bits", Due.KIND, x -> x.copy(2, 0, 0, 0, 0));
        SHEETS.range("40: n from 0 on", 0, 3, (x, v) -> x.copy(0, 0, 1, 0, v));
        SHEETS.range("40: n to 1 on", 0, 2, (x, v) -> x.copy(0, 0, 1, 1, v));
        SHEETS.range("40: n from 3 on", 0, 2, (x, v) -> x.copy(0, 3, 1, 0, v));
        SHEETS.range("40: n of itself", 0, 5, (x, v) -> x.copy(0, 0, 0, 0, v));
        SHEETS.range("40: from", 0, 3, (x, v) -> x.copy(0, v, 1, 0, 2));
        SHEETS.range("40: to", 0, 1, (x, v) -> x.copy(0, 0, 1, v, 2));
        SHEETS.range("40: from, of none", 0, 5, (x, v) -> x.copy(0, v, 1, 0, 0));
        SHEETS.range("40: to, of none", 0, 3, (x, v) -> x.copy(0, 0, 1, v, 0));
        int far = Integer.MAX_VALUE;
        SHEETS.refused("40: all is far beyond", Due.BEYOND, x -> x.copy(0, far, 1, far, far));
        SHEETS.refused("40: from and n turn around", Due.BEYOND, x -> x.copy(0, far, 1, 0, 2));
        SHEETS.refused("40: n and from turn around", Due.BEYOND, x -> x.copy(0, 2, 1, 0, far));
        SHEETS.refused("40: to and n turn around", Due.BEYOND, x -> x.copy(0, 0, 1, far, 2));
        SHEETS.refused("40: n and to turn around", Due.BEYOND, x -> x.copy(0, 0, 1, 2, far));
    }

    private static void copyFits() {
        ChestnutCorner x = sheets();
        DUE.is("40: the last three", x.copy(0, 2, 1, 0, 3), 3);
        x.load(1);
        bags("40: the last three", x, 3, 4, 5, 9, 9);
        x.load(0);
        bags("40: they stay where they came from", x, 1, 2, 3, 4, 5);
        ChestnutCorner y = sheets();
        DUE.is("40: one", y.copy(1, 2, 0, 4, 1), 1);
        y.load(0);
        bags("40: the last one", y, 1, 2, 3, 4, 8);
        ChestnutCorner z = new ChestnutCorner();
        z.sheet(1, 32, 40);
        z.sheet(2, 32, 40);
        DUE.is("40: all of 40", z.copy(1, 0, 2, 0, 40), 40);
        DUE.is("40: 41", z.copy(1, 0, 2, 0, 41), Due.BEYOND);
    }

    private static void bags(String what, ChestnutCorner x, int... want) {
        for (int batch = 0; batch < want.length; batch++) {
            DUE.is(what + ": bags of " + batch, x.of(batch, 1), want[batch]);
        }
    }

    private static void copyOrder() {
        SHEETS.refused("40: BEYOND, no such sheet, is asked ahead of MISSING", Due.BEYOND, x -> x.copy(3, 0, 4, 0, 0));
        SHEETS.refused("40: BEYOND, no such sheet, is asked ahead of MISSING", Due.BEYOND, x -> x.copy(-1, 0, 3, 0, 0));
        SHEETS.refused("40: MISSING is asked ahead of KIND", Due.MISSING, x -> x.copy(2, 0, 3, 0, 0));
        SHEETS.refused("40: MISSING is asked ahead of KIND", Due.MISSING, x -> x.copy(3, 0, 0, 0, 0));
        for (int bad : new int[] {-1, 6}) {
            SHEETS.refused("40: MISSING is asked ahead of from " + bad, Due.MISSING, x -> x.copy(3, bad, 0, 0, 0));
            SHEETS.refused("40: MISSING is asked ahead of to " + bad, Due.MISSING, x -> x.copy(3, 0, 0, bad, 0));
            SHEETS.refused("40: MISSING is asked ahead of n " + bad, Due.MISSING, x -> x.copy(3, 0, 0, 0, bad));
            SHEETS.refused("40: KIND is asked ahead of from " + bad, Due.KIND, x -> x.copy(0, bad, 2, 0, 1));
            SHEETS.refused("40: KIND is asked ahead of to " + bad, Due.KIND, x -> x.copy(0, 0, 2, bad, 1));
            SHEETS.refused("40: KIND is asked ahead of n " + bad, Due.KIND, x -> x.copy(0, 0, 2, 0, bad));
        }
    }

    private static void copyOverlapping() {
        ChestnutCorner x = sheets();
        DUE.is("40: four, one further", x.copy(0, 0, 0, 1, 4), 4);
        x.load(0);
        bags("40: as they all were", x, 1, 1, 2, 3, 4);
        ChestnutCorner y = sheets();
        DUE.is("40: four, one back", y.copy(0, 1, 0, 0, 4), 4);
        y.load(0);
        bags("40: as they all were", y, 2, 3, 4, 5, 5);
        SHEETS.asks("40: onto themselves", 5, z -> z.copy(0, 0, 0, 0, 5));
    }

    private static void load() {
        EVENING.beyond("41: sheet", 0, 3, ChestnutCorner::load);
        EVENING.tells("41: the first sheet", 3, x -> x.load(0));
        EVENING.refused("41: missing", Due.MISSING, x -> x.load(3));
        Edge last = new Edge(DUE, () -> {
            ChestnutCorner x = Scenes.evening();
            x.sheet(3, 32, 1);
            return x;
        });
        last.tells("41: the last sheet", 1, x -> x.load(3));
        EMPTY.refused("41: missing at first", Due.MISSING, x -> x.load(0));
        Edge none = new Edge(DUE, () -> {
            ChestnutCorner x = new ChestnutCorner();
            x.sheet(0, 8, 40);
            return x;
        });
        none.asks("41: there is no batch", 0, x -> x.load(0));
    }

    private static void loadEnds() {
        int[] ends = {10, 127, -1, 128, 255, -128};
        for (int bad : ends) {
            for (int at = 0; at <= 4; at++) {
                ChestnutCorner x = sheets();
                x.write(0, at, bad);
                DUE.is("41: it ends at " + bad + ", number " + at, x.load(0), at);
                for (int batch = 0; batch < 5; batch++) {
                    DUE.is("41: bags of " + batch, x.of(batch, 1), batch < at ? batch + 1 : 9);
                }
            }
        }
        ChestnutCorner x = sheets();
        x.sheet(0, 32, 40);
        x.write(0, 3, 9);
        x.write(0, 4, 0);
        DUE.is("41: it ends where there is no batch", x.load(0), 5);
        bags("41: the greatest and the least", x, 0, 0, 0, 9, 0);
        DUE.is("41: fewer than there are batches", x.load(1), 3);
        bags("41: the others stay", x, 6, 7, 8, 9, 0);
        x.put(1, Due.GONE);
        DUE.is("41: one that is gone, too", x.load(1), 3);
        bags("41: one that is gone, too", x, 6, 7, 8, 9, 0);
    }

    private static void judge() {
        EVENING.beyond("42: sheet", 0, 3, ChestnutCorner::judge);
        EVENING.refused("42: missing", Due.MISSING, x -> x.judge(3));
        EVENING.asks("42: the first sheet", 1, x -> x.judge(0));
        EVENING.asks("42: the third sheet", 1, x -> x.judge(2));
        Edge none = new Edge(DUE, () -> {
            ChestnutCorner x = Scenes.evening();
            x.sheet(3, 8, 40);
            return x;
        });
        none.asks("42: none is sold in 40", 0, x -> x.judge(3));
        none.beyond("42: BEYOND is asked ahead of MISSING: sheet", 0, 3, ChestnutCorner::judge);
    }

    private static void judgeState() {
        for (int n : new int[] {0, 1, 2, 39, 40}) {
            judgeAt(999 - n, n).asks("42: " + n + " to 999", 0, x -> x.judge(0));
            if (n > 0) {
                judgeAt(1000 - n, n).refused("42: " + n + " to 1000", Due.STATE, x -> x.judge(0));
                judgeAt(999, n).refused("42: " + n + " behind 999", Due.STATE, x -> x.judge(0));
            }
        }
        Edge wrong = new Edge(DUE, () -> {
            ChestnutCorner x = Scenes.until(new ChestnutCorner(), 998);
            x.sheet(0, 8, 2);
            x.write(0, 0, 5);
            return x;
        });
        wrong.refused("42: STATE, though the first one isn't", Due.STATE, x -> x.judge(0));
        judgeAt(999, 1).refused("42: MISSING is asked ahead of STATE", Due.MISSING, x -> x.judge(1));
        judgeAt(999, 1).beyond("42: BEYOND is asked ahead of STATE: sheet", 0, 3, ChestnutCorner::judge);
    }

    private static Edge judgeAt(int minute, int n) {
        Supplier<ChestnutCorner> scene = () -> {
            ChestnutCorner x = Scenes.until(new ChestnutCorner(), minute);
            x.sheet(0, 8, n);
            return x;
        };
        return new Edge(DUE, scene);
    }

    private static void judgePlaces() {
        // Two bags in each of the first four minutes, one in the fifth, none behind that.
        int[] sold = {2, 2, 2, 2, 1, 0};
        for (int bad = 0; bad <= 6; bad++) {
            for (int more : new int[] {-1, 1}) {
                ChestnutCorner x = Due.told("nut roast 100 heap");
                for (int m = 0; m < 5; m++) {
                    x.crowd(0, m, 4);
                }
                x.sheet(2, 16, 6);
                for (int i = 0; i < 6; i++) {
                    x.write(2, i, sold[i] + (i >= bad ? more : 0));
                }
                DUE.is("42: number " + bad + " is the first that isn't", x.judge(2), bad == 6 ? 0 : 1 + bad);
                DUE.is("42: nothing is sold", x.now(5), 0);
            }
        }
    }
}
