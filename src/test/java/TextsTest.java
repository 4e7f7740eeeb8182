/** Promises 33 to 35: the tape and its texts. */
public final class TextsTest {
    private static final Due DUE = new Due("TextsTest");

    public static void main(String[] args) {
        feed();
        feedFull();
        wipe();
        items();
        batches();
        blanksAndNumbers();
        faults();
        tooEarly();
        rooms();
        tooMany();
        nothingChanges();
        DUE.end();
    }

    private static void feed() {
        ChestnutCorner x = new ChestnutCorner();
        DUE.is("33: n 0", x.feed(0, 0), Due.BEYOND);
        DUE.is("33: n 5", x.feed(0, 5), Due.BEYOND);
        DUE.is("33: n -1", x.feed(0, -1), Due.BEYOND);
        DUE.is("33: four", x.feed(0x68656174, 4), 4);
        DUE.is("33: the lowest two", x.feed(0x12342031, 2), 6);
        DUE.is("33: the lowest one", x.feed(0xFFFFFF37, 1), 7);
        DUE.is("33: heat 17", x.text(), 1);
        DUE.is("33: heat 17", x.now(2), 17);
        x.feed(-1, 3);
        DUE.is("33: bytes of any number", x.count(6), 3);
    }

    private static void feedFull() {
        ChestnutCorner x = new ChestnutCorner();
        for (int i = 1; i <= 29; i++) {
            x.feed(0x20202020, 4);
        }
        DUE.is("33: 118", x.feed(0x2020, 2), 118);
        DUE.is("33: no room for 3", x.feed(0, 3), Due.FULL);
        DUE.is("33: nothing changes", x.count(6), 118);
        DUE.is("33: BEYOND is asked ahead of FULL", x.feed(0, 5), Due.BEYOND);
        DUE.is("33: 120", x.feed(0x2020, 2), 120);
        DUE.is("33: full", x.feed(0, 1), Due.FULL);
        DUE.is("35: 120 blanks end too early", x.text(), -121);
    }

    private static void wipe() {
        ChestnutCorner x = new ChestnutCorner();
        Due.feed(x, "heat 3");
        DUE.is("34: it had", x.wipe(), 6);
        DUE.is("34: it has none", x.count(6), 0);
        DUE.is("34: none again", x.wipe(), 0);
        DUE.is("34: nothing to read", x.text(), -1);
        DUE.is("34: the heat stays", x.now(2), 5);
        Due.feed(x, "heat 12");
        x.wipe();
        Due.feed(x, "heat 1");
        DUE.is("34: nothing of it is read", x.text(), 1);
        DUE.is("34: nothing of it is read", x.now(2), 1);
        Due.feed(x, "nut rim");
        x.wipe();
        Due.feed(x, "nut ri");
        DUE.is("34: nothing of it is read", x.text(), -5);
    }

    private static void read(String text, int want) {
        read(new ChestnutCorner(), text, want);
    }

    private static void read(ChestnutCorner x, String text, int want) {
        Due.feed(x, text);
        DUE.is("35: text \"" + text + "\"", x.text(), want);
        DUE.is("35: empty behind \"" + text + "\"", x.count(6), 0);
    }

    private static void items() {
        ChestnutCorner x = new ChestnutCorner();
        read(x, "heat 20;price 99;cold 9;crowd 400 at 3 minute 999;heat 0;nut roast 999 heap", 6);
        DUE.is("35: the later heat", x.now(2), 0);
        DUE.is("35: price", x.count(4), 99);
        DUE.is("35: cold", x.count(5), 9);
        DUE.is("35: corner", x.crowdOf(0, 0), 3);
        DUE.is("35: minute", x.crowdOf(0, 1), 999);
        DUE.is("35: many", x.crowdOf(0, 2), 400);
        DUE.is("35: roast", x.of(0, 2), 999);
        DUE.is("35: heap", x.of(0, 4), Due.HEAP);
        read(x, "crowd 0 at 0 minute 0;price 0;cold 0", 3);
        DUE.is("35: another crowd", x.count(1), 2);
    }

    private static void batches() {
        ChestnutCorner x = new ChestnutCorner();
        String[] words = {"nut", "large", "small", "sweet", "raw", "wormed", "old"};
        for (int kind = 0; kind < words.length; kind++) {
            read(x, words[kind], 1);
            DUE.is("35: kind of " + words[kind], x.of(kind, 0), kind);
            DUE.is("35: bags", x.of(kind, 1), 9);
            DUE.is("35: sack", x.of(kind, 4), 0);
        }
        read(x, "nut pan;nut roast 5 rim;raw heap", 3);
        DUE.is("35: pan", x.of(7, 4), Due.PAN);
        DUE.is("35: rim", x.of(8, 4), Due.RIM);
        DUE.is("35: roast and rim", x.of(8, 2), 5);
        DUE.is("35: heap", x.of(9, 4), Due.HEAP);
    }

    private static void blanksAndNumbers() {
        read("  nut   roast   5  ;  heat 3  ", 2);
        read("nut roast5pan;heat3;crowd3at0minute0", 3);
        read("nut roast 0;nut roast 0 rim", 2);
        read("nutroast 5", -1);
        read("nut\tpan", -4);
        read("heat 0000000000000000000020", 1);
        read("heat 99999999999999999999", -6);
        read("heat 4294967296", -6);
        read("heat 3 3", -8);
    }

    private static void faults() {
        read("Nut", -1);
        read("5", -1);
        read(";", -1);
        read("#", -1);
        read("nuts", -1);
        read("nutz", -1);
        read("nu", -1);
        read("but", -1);
        read("nut{", -4);
        read("nut`", -4);
        read("heat 5:", -7);
        read("heat 5/", -7);
        read("nut,", -4);
        read("roast 5", -1);
        read("nut large", -5);
        read("nut 5", -5);
        read("nut roast pan", -11);
        read("nut roast 1000", -11);
        read("nut roast 5 roast 5", -13);
        read("nut pan roast 5", -9);
        read("nut heap rim", -10);
        read("nut ;; nut", -6);
        read("nut ; 5", -7);
        read("crowd 401", -7);
        read("crowd x", -7);
        read("crowd 5 5", -9);
        read("crowd 5 at 4", -12);
        read("crowd 5 at 3 at", -14);
        read("crowd 5 at 3 minute 1000", -21);
        read("crowd 5 at 3 minute 999 5", -25);
        read("heat 21", -6);
        read("price 100", -7);
        read("cold 10", -6);
        read("heat -1", -6);
        read("cold 9!", -7);
    }

    private static void tooEarly() {
        read("", -1);
        read("   ", -4);
        read("nut roast", -10);
        read("nut roast ", -11);
        read("crowd", -6);
        read("crowd 5", -8);
        read("crowd 5 at", -11);
        read("crowd 5 at 3", -13);
        read("crowd 5 at 3 minute", -20);
        read("heat", -5);
        read("price ", -7);
        read("nut;", -5);
        read("nut; ", -6);
    }

    private static void rooms() {
        read("nut pan;raw pan;old pan", -21);
        read("nut rim;nut rim;nut rim;nut rim;nut rim", -37);
        ChestnutCorner x = Due.told("nut pan;nut");
        read(x, "nut pan;nut pan", -13);
        x.put(0, Due.GONE);
        read(x, "nut pan;nut pan", 2);
        DUE.is("35: both in the pan", x.at(Due.PAN), 12);
    }

    private static void tooMany() {
        read("old;old;old;old;old;old;old;old;old;old", 10);
        read("old;old;old;old;old;old;old;old;old;old;old", -41);
        ChestnutCorner x = Due.told("nut;nut;nut;nut;nut;nut;nut;nut");
        read(x, "nut;nut;heat 3;nut", -16);
        read(x, "nut;nut;heat 3", 3);
        read(x, "heat 4; nut", -9);
        ChestnutCorner y = new ChestnutCorner();
        for (int i = 0; i < 11; i++) {
            y.crowd(0, 0, 0);
        }
        read(y, "crowd 1 at 1 minute 1; crowd", -24);
        read(y, "crowd 1 at 1 minute 1", 1);
        read(y, "crowd", -1);
    }

    private static void nothingChanges() {
        ChestnutCorner x = Due.told("nut roast 7;heat 9");
        Due.feed(x, "nut;crowd 1 at 1 minute 1;heat 3;price 7;cold 8;5");
        DUE.is("35: a fault at the end", x.text(), -49);
        DUE.is("35: no batch", x.count(0), 1);
        DUE.is("35: no crowd", x.count(1), 0);
        DUE.is("35: no heat", x.now(2), 9);
        DUE.is("35: no price", x.count(4), 4);
        DUE.is("35: no cold", x.count(5), 5);
        DUE.is("35: the tape is empty", x.count(6), 0);
        DUE.is("35: no finding", x.status(-1), 0);
    }
}
