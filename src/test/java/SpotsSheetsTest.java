/** Promises 36 to 42: spots and sheets. */
public final class SpotsSheetsTest {
    private static final Due DUE = new Due("SpotsSheetsTest");

    public static void main(String[] args) {
        hold();
        as();
        sheet();
        write();
        copy();
        copyOverlapping();
        load();
        judge();
        DUE.end();
    }

    private static void hold() {
        ChestnutCorner x = Due.told("nut");
        DUE.is("36: a batch", x.hold(0, 0), 1);
        DUE.is("36: the last spot", x.hold(9, 0), 1);
        DUE.is("36: two hold something", x.count(8), 2);
        DUE.is("36: nothing", x.hold(0, -1), 1);
        DUE.is("36: one holds something", x.count(8), 1);
        DUE.is("36: spot -1", x.hold(-1, 0), Due.BEYOND);
        DUE.is("36: spot 10", x.hold(10, 0), Due.BEYOND);
        DUE.is("36: no such batch", x.hold(0, 1), Due.BEYOND);
        DUE.is("36: batch -2", x.hold(0, -2), Due.BEYOND);
    }

    private static void as() {
        ChestnutCorner x = new ChestnutCorner();
        int[] sets = {1, 1 | 2, 1 | 4, 1 | 2 | 8, 1 | 4 | 16, 1 | 32, 1 | 32 | 64};
        for (int kind = 0; kind <= 6; kind++) {
            x.batch(kind);
            x.hold(kind, kind);
            for (int as = 0; as <= 6; as++) {
                boolean is = (sets[kind] >> as & 1) == 1;
                DUE.is("37: " + kind + " as " + as, x.as(kind, as), is ? kind : Due.KIND);
            }
        }
        DUE.is("37: nothing", x.as(7, 0), Due.MISSING);
        DUE.is("37: kind -1", x.as(0, -1), Due.BEYOND);
        DUE.is("37: kind 7", x.as(7, 7), Due.BEYOND);
        DUE.is("37: spot -1", x.as(-1, 0), Due.BEYOND);
        DUE.is("37: spot 10", x.as(10, 0), Due.BEYOND);
        x.change(0, 0, Due.OLD);
        DUE.is("37: as what it is now", x.as(0, Due.WORMED), 0);
        x.put(0, Due.GONE);
        DUE.is("37: gone or not", x.as(0, Due.OLD), 0);
    }

    private static void sheet() {
        ChestnutCorner x = new ChestnutCorner();
        DUE.is("38: 40 numbers", x.sheet(0, 8, 40), 40);
        DUE.is("38: none", x.sheet(1, 16, 0), 0);
        DUE.is("38: no number", x.write(1, 0, 0), Due.BEYOND);
        DUE.is("38: 32 bits", x.sheet(3, 32, 3), 3);
        DUE.is("38: missing", x.sheet(0, 0, 40), 0);
        DUE.is("38: is missing", x.write(0, 0, 0), Due.MISSING);
        DUE.is("38: sheet -1", x.sheet(-1, 8, 1), Due.BEYOND);
        DUE.is("38: sheet 4", x.sheet(4, 8, -1), Due.BEYOND);
        DUE.is("38: 9 bits", x.sheet(0, 9, -1), Due.BEYOND);
        DUE.is("38: -8 bits", x.sheet(0, -8, 1), Due.BEYOND);
        DUE.is("38: 64 bits", x.sheet(0, 64, 1), Due.BEYOND);
        DUE.is("38: below 0", x.sheet(0, 8, -1), Due.SIZE);
        DUE.is("38: below 0 with bits 0", x.sheet(0, 0, -1), Due.SIZE);
        DUE.is("38: above 40", x.sheet(0, 8, 41), Due.BEYOND);
        DUE.is("38: above 40 with bits 0", x.sheet(3, 0, 41), Due.BEYOND);
        DUE.is("38: nothing changes", x.write(3, 2, 5), 1);
        x.batch(0);
        x.batch(0);
        x.sheet(2, 8, 1);
        x.write(2, 0, 5);
        x.sheet(2, 8, 2);
        DUE.is("38: all 0 anew", x.load(2), 2);
        DUE.is("38: all 0 anew", x.count(2), 0);
    }

    private static void write() {
        ChestnutCorner x = Due.told("nut");
        x.sheet(0, 8, 2);
        DUE.is("39: sheet -1", x.write(-1, 0, 0), Due.BEYOND);
        DUE.is("39: sheet 4", x.write(4, 0, 0), Due.BEYOND);
        DUE.is("39: missing", x.write(1, 99, 0), Due.MISSING);
        DUE.is("39: number -1", x.write(0, -1, 0), Due.BEYOND);
        DUE.is("39: number 2", x.write(0, 2, 0), Due.BEYOND);
        loads(x, 8, 255, 0);
        loads(x, 8, 256 + 7, 1);
        loads(x, 8, -256, 1);
        loads(x, 8, 128, 0);
        loads(x, 16, 256 + 7, 0);
        loads(x, 16, 65535, 0);
        loads(x, 16, 65536 + 9, 1);
        loads(x, 32, 65536 + 9, 0);
        loads(x, 32, 9, 1);
        loads(x, 32, -1, 0);
    }

    private static void loads(ChestnutCorner x, int bits, int v, int want) {
        x.sheet(0, bits, 1);
        DUE.is("39: write", x.write(0, 0, v), 1);
        DUE.is("39: " + v + " of " + bits + " bits loads", x.load(0), want);
        if (want == 1) {
            DUE.is("39: its lowest bits", x.of(0, 1), v & 15);
        }
    }

    private static void copy() {
        ChestnutCorner x = Due.told("nut;nut;nut");
        x.sheet(0, 8, 3);
        x.sheet(1, 8, 2);
        x.sheet(2, 16, 3);
        DUE.is("40: no such from", x.copy(-1, 0, 0, 0, 0), Due.BEYOND);
        DUE.is("40: no such to", x.copy(3, 0, 4, 0, 0), Due.BEYOND);
        DUE.is("40: from is missing", x.copy(3, 0, 0, 0, 0), Due.MISSING);
        DUE.is("40: to is missing", x.copy(2, 9, 3, 0, 0), Due.MISSING);
        DUE.is("40: other bits", x.copy(0, 9, 2, 0, 1), Due.KIND);
        DUE.is("40: from has not so many", x.copy(0, 2, 1, 0, 2), Due.BEYOND);
        DUE.is("40: to has not so many", x.copy(0, 0, 1, 1, 2), Due.BEYOND);
        DUE.is("40: from -1", x.copy(0, -1, 1, 0, 1), Due.BEYOND);
        DUE.is("40: to -1", x.copy(0, 0, 1, -1, 1), Due.BEYOND);
        DUE.is("40: n -1", x.copy(0, 1, 1, 1, -1), Due.BEYOND);
        DUE.is("40: far beyond", x.copy(0, Integer.MAX_VALUE, 1, 0, 2), Due.BEYOND);
        DUE.is("40: n far beyond", x.copy(0, 1, 1, 0, Integer.MAX_VALUE), Due.BEYOND);
        DUE.is("40: none from the end", x.copy(0, 3, 1, 2, 0), 0);
        x.write(0, 1, 4);
        x.write(0, 2, 6);
        DUE.is("40: two", x.copy(0, 1, 1, 0, 2), 2);
        DUE.is("40: load them", x.load(1), 2);
        DUE.is("40: first", x.of(0, 1), 4);
        DUE.is("40: second", x.of(1, 1), 6);
        for (int s = 0; s <= 3; s++) {
            x.sheet(s, 32, 40);
            x.write(s, 39, s + 1);
        }
        for (int s = 0; s <= 3; s++) {
            x.sheet(s, 32, s == 0 ? 2 : 40);
            x.write(s, 0, s + 2);
        }
        for (int s = 0; s <= 3; s++) {
            DUE.is("39: each sheet has its own", x.copy(s, 0, 0, 1, 1), 1);
            x.load(0);
            DUE.is("39: each sheet has its own", x.of(1, 1), s + 2);
            DUE.is("39: and keeps it", x.of(0, 1), 2);
        }
        x.sheet(2, 8, 3);
        DUE.is("40: other sheets stay", x.load(2), 3);
        DUE.is("40: other sheets stay", x.count(2), 0);
    }

    private static void copyOverlapping() {
        ChestnutCorner x = Due.told("nut;nut;nut;nut");
        x.sheet(0, 32, 4);
        for (int i = 0; i < 4; i++) {
            x.write(0, i, i + 1);
        }
        DUE.is("40: onto itself, later", x.copy(0, 0, 0, 1, 3), 3);
        x.load(0);
        int[] later = {1, 1, 2, 3};
        for (int i = 0; i < 4; i++) {
            DUE.is("40: as they all were", x.of(i, 1), later[i]);
        }
        DUE.is("40: onto itself, earlier", x.copy(0, 1, 0, 0, 3), 3);
        x.load(0);
        int[] earlier = {1, 2, 3, 3};
        for (int i = 0; i < 4; i++) {
            DUE.is("40: as they all were", x.of(i, 1), earlier[i]);
        }
    }

    private static void load() {
        ChestnutCorner x = Due.told("nut;nut;nut");
        DUE.is("41: sheet -1", x.load(-1), Due.BEYOND);
        DUE.is("41: sheet 4", x.load(4), Due.BEYOND);
        DUE.is("41: missing", x.load(0), Due.MISSING);
        x.sheet(0, 8, 2);
        x.write(0, 0, 9);
        x.write(0, 1, 10);
        DUE.is("41: ends at 10", x.load(0), 1);
        DUE.is("41: the second stays", x.of(1, 1), 9);
        x.write(0, 1, 2);
        DUE.is("41: both", x.load(0), 2);
        DUE.is("41: the second", x.of(1, 1), 2);
        DUE.is("41: the third stays", x.of(2, 1), 9);
        x.sheet(0, 8, 5);
        DUE.is("41: ends behind the batches", x.load(0), 3);
        x.sheet(0, 8, 0);
        DUE.is("41: none", x.load(0), 0);
    }

    private static void judge() {
        ChestnutCorner x = Due.told("nut roast 100 heap;crowd 4 at 0 minute 0;crowd 40 at 0 minute 2");
        DUE.is("42: sheet -1", x.judge(-1), Due.BEYOND);
        DUE.is("42: sheet 4", x.judge(4), Due.BEYOND);
        DUE.is("42: missing", x.judge(0), Due.MISSING);
        x.sheet(0, 8, 0);
        DUE.is("42: of none all are", x.judge(0), 0);
        x.sheet(0, 8, 4);
        DUE.is("42: the first isn't", x.judge(0), 1);
        x.write(0, 0, 2);
        DUE.is("42: the third isn't", x.judge(0), 3);
        x.write(0, 2, 7);
        DUE.is("42: all are", x.judge(0), 0);
        x.write(0, 3, 1);
        DUE.is("42: the fourth isn't", x.judge(0), 4);
        DUE.is("42: nothing changes", x.now(0), 0);
        DUE.is("42: nothing is sold", x.count(2), 9);
        for (int i = 0; i < 8; i++) {
            x.minutes(120);
        }
        x.minutes(35);
        DUE.is("42: to 999", x.judge(0), 1);
        x.minutes(1);
        DUE.is("42: above 999, though an earlier one isn't", x.judge(0), Due.STATE);
        DUE.is("42: MISSING is asked ahead of STATE", x.judge(1), Due.MISSING);
    }
}
