import java.util.function.Supplier;

/** The edges of promises 33 to 35, and of the texts of the terms: each sentence that names one, by itself. */
public final class TextEdgesTest {
    private static final Due DUE = new Due("TextEdgesTest");
    private static final Supplier<ChestnutCorner> WIPED = () -> {
        ChestnutCorner x = Scenes.evening();
        x.wipe();
        return x;
    };
    private static final Supplier<ChestnutCorner> FULL_WIPED = () -> {
        ChestnutCorner x = Scenes.full();
        x.wipe();
        return x;
    };
    private static final Edge EVENING = new Edge(DUE, Scenes::evening);
    private static final Edge FULL = new Edge(DUE, Scenes::full);
    private static final Edge EMPTY = new Edge(DUE, Scenes::empty);

    public static void main(String[] args) {
        feed();
        feedFull();
        feedBytes();
        wipe();
        numbers();
        numberTokens();
        words();
        signs();
        grammar();
        tooEarly();
        blanks();
        room();
        batchesFull();
        crowdsFull();
        newBatch();
        changesAll();
        itemsInOrder();
        longest();
        DUE.end();
    }

    /** The text is read: so many ITEMS, and the tape is empty. */
    private static void items(String text, int items) {
        ChestnutCorner x = WIPED.get();
        Due.feed(x, text);
        DUE.is("35: text \"" + text + "\"", x.text(), items);
        DUE.is("35: the tape is empty behind \"" + text + "\"", x.count(6), 0);
        DUE.is("35: no finding behind \"" + text + "\"", x.status(-1), 0);
    }

    /** The text has a FAULT at a place: nothing changes but that the tape is empty; that is no finding. */
    private static void fault(String text, int place) {
        fault(WIPED, text, place);
    }

    private static void fault(Supplier<ChestnutCorner> scene, String text, int place) {
        ChestnutCorner x = scene.get();
        ChestnutCorner same = scene.get();
        Due.feed(x, text);
        DUE.is("35: fault of \"" + text + "\"", x.text(), -1 - place);
        DUE.is("35: the tape is empty behind the fault of \"" + text + "\"", x.count(6), 0);
        DUE.is("35: no finding behind the fault of \"" + text + "\"", x.status(-1), same.status(-1));
        DUE.same("35: nothing changes by the fault of \"" + text + "\",", Told.of(x), Told.of(same));
    }

    private static void feed() {
        EVENING.range("33: n", 1, 4, (x, v) -> x.feed(0x61626364, v));
        for (int n = 1; n <= 4; n++) {
            int many = n;
            EMPTY.tells("33: how many it has with " + n, n, x -> x.feed(-1, many));
            EVENING.tells("33: how many it has with " + n + " more", 6 + n, x -> x.feed(-1, many));
        }
    }

    private static void feedFull() {
        FULL.refused("33: full", Due.FULL, x -> x.feed(0, 1));
        FULL.beyond("33: BEYOND is asked ahead of FULL: n", 1, 4, (x, v) -> x.feed(0, v));
        for (int free = 0; free <= 4; free++) {
            int room = free;
            Edge almost = new Edge(DUE, () -> {
                ChestnutCorner x = new ChestnutCorner();
                for (int i = 0; i < 120 - room; i++) {
                    x.feed(' ', 1);
                }
                return x;
            });
            for (int n = 1; n <= 4; n++) {
                int many = n;
                if (n <= room) {
                    almost.tells("33: " + n + " with room for " + room, 120 - room + n, x -> x.feed(0, many));
                } else {
                    almost.refused("33: " + n + " with room for " + room, Due.FULL, x -> x.feed(0, many));
                }
            }
        }
    }

    /** heat 3, and more bytes of numbers that have others above them. */
    private static void feedBytes() {
        ChestnutCorner x = new ChestnutCorner();
        x.feed(0x7F000068, 1);
        x.feed(0x12346561, 2);
        x.feed(0xFF742031, 3);
        x.feed(0x37202020, 4);
        DUE.is("33: the lowest ones, the highest of these first", x.text(), 1);
        DUE.is("33: the lowest ones, the highest of these first", x.now(2), 17);
        ChestnutCorner high = new ChestnutCorner();
        high.feed(0x80818283, 4);
        DUE.is("33: bytes above 127 begin no token", high.text(), -1);
        ChestnutCorner e8 = new ChestnutCorner();
        e8.feed(0x6E7574E1, 4);
        DUE.is("33: nor are they letters by their lowest bits", e8.text(), -4);
        ChestnutCorner zero = Due.told("nut");
        zero.feed(0x6E757400, 4);
        DUE.is("33: a byte 0 begins no token", zero.text(), -4);
    }

    private static void wipe() {
        EMPTY.asks("34: none", 0, ChestnutCorner::wipe);
        EVENING.tells("34: six", 6, ChestnutCorner::wipe);
        FULL.tells("34: 120", 120, ChestnutCorner::wipe);
        ChestnutCorner x = Scenes.full();
        x.wipe();
        DUE.is("34: there is room then", x.feed(0, 4), 4);
    }

    private static void numbers() {
        number("nut roast ", 999, "");
        number("crowd ", 400, " at 3 minute 999");
        number("crowd 5 at ", 3, " minute 999");
        number("crowd 5 at 3 minute ", 999, "");
        number("heat ", 20, "");
        number("price ", 99, "");
        number("cold ", 9, "");
    }

    private static void number(String ahead, int most, String behind) {
        items(ahead + 0 + behind, 1);
        items(ahead + most + behind, 1);
        fault(ahead + (most + 1) + behind, ahead.length());
        fault(ahead + 1000 + behind, ahead.length());
        fault(ahead + Integer.MAX_VALUE + behind, ahead.length());
        fault(ahead + "4294967296" + behind, ahead.length());
        fault(ahead + "18446744073709551616" + behind, ahead.length());
        fault(ahead + "-1" + behind, ahead.length());
        fault(ahead + ";" + behind, ahead.length());
        fault(ahead + "nut" + behind, ahead.length());
        fault(ahead + "#" + behind, ahead.length());
        fault(ahead, ahead.length());
    }

    private static void numberTokens() {
        items("heat 007", 1);
        items("heat 00000000000000000000000000020", 1);
        fault("heat 00000000000000000000000000021", 5);
        fault("heat 1 2", 7);
        fault("heat 2;heat 1 2", 14);
        items("heat2;price9;cold3", 3);
        fault("heat 2price 3", 6);
        ChestnutCorner x = new ChestnutCorner();
        Due.feed(x, "heat 019;price 0;cold 00");
        DUE.is("35: digits", x.text(), 3);
        DUE.is("35: a heat with a 0 ahead", x.now(2), 19);
        DUE.is("35: the least price", x.count(4), 0);
        DUE.is("35: the least cold", x.count(5), 0);
    }

    private static void words() {
        String[] words = {"nut", "large", "small", "sweet", "raw", "wormed", "old", "crowd", "heat", "price", "cold"};
        for (String word : words) {
            fault(word + "x", 0);
            fault("x" + word, 0);
            fault(word.substring(0, word.length() - 1), 0);
            if (!word.equals("cold")) {
                fault(word.substring(1), 0);
            }
            fault(word.toUpperCase(), 0);
            fault("nut;" + word + word, 4);
        }
        String[] others = {"roast", "pan", "rim", "heap", "at", "minute", "sack", "gone", "a", "z", "nutz", "zold"};
        for (String word : others) {
            fault(word, 0);
            fault("nut;" + word, 4);
        }
        fault("nut roasts 5", 4);
        fault("nut roas 5", 4);
        fault("nut pans", 4);
        fault("nut ri", 4);
        fault("nut heaps", 4);
        fault("crowd 5 a 3 minute 9", 8);
        fault("crowd 5 att 3 minute 9", 8);
        fault("crowd 5 at 3 minutes 9", 13);
        fault("crowd 5 at 3 min 9", 13);
    }

    private static void signs() {
        // The first bytes beside letters and digits, and some others.
        for (char c : new char[] {'`', '{', '/', ':', 'A', 'Z', '!', '#', '\t', '\n', 0, 127, 128, 225, 255, ','}) {
            fault(c + "nut", 0);
            fault("nut" + c, 3);
            fault("nut " + c + " pan", 4);
            fault("heat 3" + c, 6);
        }
        fault(";", 0);
        fault(";nut", 0);
        fault("nut;;nut", 4);
        fault("nut;nut;", 8);
        fault("nut roast;", 9);
        items("nut;nut", 2);
    }

    private static void grammar() {
        fault("5", 0);
        fault("nut 5", 4);
        fault("nut nut", 4);
        fault("nut heat 3", 4);
        fault("nut roast 5 roast 5", 12);
        fault("nut roast 5 5", 12);
        fault("nut rim roast 5", 8);
        fault("nut rim rim", 8);
        fault("nut heap pan", 9);
        fault("nut roast 5 rim 5", 16);
        fault("crowd 5 3", 8);
        fault("crowd 5 minute 3 at 3", 8);
        fault("crowd at 3 minute 5", 6);
        fault("crowd 5 at minute 9", 11);
        fault("crowd 5 at 3 minute;nut", 19);
        fault("nut roast rim", 10);
        fault("nut roast;nut", 9);
        fault("crowd 5 at 3 5", 13);
        fault("crowd 5 at 3;", 12);
        fault("crowd 5 at 3 minute 5 5", 22);
        fault("crowd 5 at 3 minute 5 nut", 22);
        fault("heat roast 5", 5);
        fault("heat 5 heat 5", 7);
        fault("price 5 nut", 8);
        // The first token that can't stand is told, not a later one, nor the end.
        fault("nut 5 #", 4);
        fault("nut roast # pan", 10);
        fault("nut;heat 3;cold 10;heat 21", 16);
    }

    private static void tooEarly() {
        String[] texts = {"", "nut roast", "crowd", "crowd 5", "crowd 5 at", "crowd 5 at 3", "crowd 5 at 3 minute",
            "heat", "price", "cold", "nut;", "nut roast 5 rim;", "heat 3;", "nut;heat", "nut;crowd 5 at 3"};
        for (String text : texts) {
            fault(text, text.length());
            fault(text + " ", text.length() + 1);
            fault(text + "   ", text.length() + 3);
        }
        ChestnutCorner x = Scenes.full();
        DUE.is("35: 120 blanks", x.text(), -121);
        EMPTY.asks("35: an empty tape", -1, ChestnutCorner::text);
    }

    private static void blanks() {
        items("nut roast 5 rim ; heat 3", 2);
        items("nut   roast   5   rim   ;   heat   3", 2);
        items("nut roast5rim;heat3", 2);
        items("crowd5at3minute9", 1);
        items("  nut", 1);
        items("nut  ", 1);
        fault("nutroast 5", 0);
        fault("nut roast 5 r im", 12);
        fault("nut roast 5 heap p", 17);
        fault("crowd 5 a t 3 minute 9", 8);
        items("nut roast 9 heap", 1);
        fault("nut roast 9 9", 12);
    }

    private static void room() {
        // One is in the pan and one on the rim.
        items("nut pan;nut rim;nut rim;nut rim", 4);
        fault("nut pan;nut pan", 12);
        fault("nut pan;nut roast 5 pan;nut", 20);
        fault("nut rim;nut rim;nut rim;nut rim", 28);
        items("nut heap;nut heap;nut heap;nut heap", 4);
        fault(FULL_WIPED, "heat 3;nut pan", 7);
        Supplier<ChestnutCorner> nine = () -> nineBatches(2, 4);
        fault(nine, "nut pan", 4);
        fault(nine, "nut rim", 4);
        fault(nine, "nut roast 5 rim", 12);
        ChestnutCorner x = nineBatches(2, 4);
        Due.feed(x, "nut heap");
        DUE.is("35: there is room on the heap", x.text(), 1);
        ChestnutCorner y = nineBatches(1, 3);
        Due.feed(y, "nut pan");
        DUE.is("35: room for the second one in the pan", y.text(), 1);
        ChestnutCorner z = nineBatches(1, 3);
        Due.feed(z, "nut rim");
        DUE.is("35: room for the fourth one on the rim", z.text(), 1);
    }

    private static ChestnutCorner nineBatches(int inPan, int onRim) {
        ChestnutCorner x = new ChestnutCorner();
        for (int i = 0; i < 9; i++) {
            x.batch(0);
            if (i < inPan) {
                x.put(i, Due.PAN);
            } else if (i < inPan + onRim) {
                x.put(i, Due.RIM);
            }
        }
        return x;
    }

    private static void batchesFull() {
        // Six are there.
        items("nut;large;small;sweet", 4);
        fault("nut;large;small;sweet;old", 22);
        fault("nut;large;small;sweet;heat 3;old pan", 29);
        fault(FULL_WIPED, "nut", 0);
        fault(FULL_WIPED, "heat 3; old roast 1000 pan", 8);
        ChestnutCorner x = FULL_WIPED.get();
        Due.feed(x, "heat 3;price 7;cold 2");
        DUE.is("35: other items", x.text(), 3);
    }

    private static void crowdsFull() {
        fault(FULL_WIPED, "crowd 5 at 3 minute 9", 0);
        fault(FULL_WIPED, "heat 3; crowd", 8);
        ChestnutCorner eleven = new ChestnutCorner();
        for (int i = 0; i < 11; i++) {
            eleven.crowd(0, 0, 0);
        }
        Due.feed(eleven, "crowd 5 at 3 minute 9;crowd 6 at 2 minute 8");
        DUE.is("35: a 12th and a 13th", eleven.text(), -23);
        DUE.is("35: neither is new", eleven.count(1), 11);
        Due.feed(eleven, "crowd 5 at 3 minute 9");
        DUE.is("35: a 12th", eleven.text(), 1);
        DUE.is("35: its number", eleven.crowdOf(11, 2), 5);
    }

    private static void newBatch() {
        String[] words = {"nut", "large", "small", "sweet", "raw", "wormed", "old"};
        String[] places = {"", " pan", " rim", " heap"};
        for (int kind = 0; kind <= 6; kind++) {
            for (int place = 0; place <= 3; place++) {
                for (int roast : new int[] {-1, 0, 60, 999}) {
                    ChestnutCorner x = new ChestnutCorner();
                    String text = words[kind] + (roast < 0 ? "" : " roast " + roast) + places[place];
                    Due.feed(x, text);
                    DUE.is("35: \"" + text + "\"", x.text(), 1);
                    int[] want = {kind, 9, Math.max(0, roast), 0, place};
                    for (int what = 0; what <= 4; what++) {
                        DUE.is("35: \"" + text + "\", what " + what, x.of(0, what), want[what]);
                    }
                }
            }
        }
    }

    /** All that a text tells is so; a FAULT at its end takes all of it back. */
    private static void changesAll() {
        String text = "nut roast 7 rim;crowd 4 at 1 minute 2;heat 20;price 99;cold 9";
        ChestnutCorner x = WIPED.get();
        Due.feed(x, text);
        DUE.is("35: five items", x.text(), 5);
        DUE.is("35: the batch", x.of(6, 2), 7);
        DUE.is("35: its place", x.of(6, 4), Due.RIM);
        DUE.is("35: the crowd's corner", x.crowdOf(2, 0), 1);
        DUE.is("35: the crowd's minute", x.crowdOf(2, 1), 2);
        DUE.is("35: the crowd's many", x.crowdOf(2, 2), 4);
        DUE.is("35: the heat", x.now(2), 20);
        DUE.is("35: the price", x.count(4), 99);
        DUE.is("35: the cold", x.count(5), 9);
        fault(text + ";", text.length() + 1);
        fault(text + " nut", text.length() + 1);
        fault(text + ";#", text.length() + 1);
        fault(text + ";heat 21", text.length() + 6);
    }

    private static void itemsInOrder() {
        ChestnutCorner x = new ChestnutCorner();
        Due.feed(x, "heat 3;heat 4;price 8;price 7;raw;old");
        DUE.is("35: six items", x.text(), 6);
        DUE.is("35: the later heat", x.now(2), 4);
        DUE.is("35: the later price", x.count(4), 7);
        DUE.is("35: the first batch", x.of(0, 0), Due.RAW);
        DUE.is("35: the second batch", x.of(1, 0), Due.OLD);
    }

    /** 120 bytes: 17 items of 7 and the last one of 1 less. */
    private static void longest() {
        StringBuilder text = new StringBuilder();
        for (int i = 0; i < 17; i++) {
            text.append(i % 2 == 0 ? "heat 3;" : "cold 2;");
        }
        ChestnutCorner x = new ChestnutCorner();
        Due.feed(x, text.toString());
        DUE.is("35: 119 bytes", x.count(6), 119);
        x.feed('n', 1);
        DUE.is("35: the last byte is a fault", x.text(), -120);
        text.setLength(112);
        text.append("heat  17");
        Due.feed(x, text.toString());
        DUE.is("35: 120 bytes", x.count(6), 120);
        DUE.is("35: 17 items", x.text(), 17);
        DUE.is("35: the number that the tape ends with", x.now(2), 17);
    }
}
