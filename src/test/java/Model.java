import java.util.ArrayList;
import java.util.Arrays;
import java.util.List;
import java.util.function.ToIntFunction;

/**
 * The document once more, written for plainness alone: kinds that inherit, buyers one by one, every plan played
 * through. It shares nothing with the class that it is compared with but the reading of the document.
 */
final class Model {
    static final class Finding extends RuntimeException {
        private static final long serialVersionUID = 1L;
        final int code;

        Finding(int code) {
            super(null, null, false, false);
            this.code = code;
        }
    }

    static class Nut {
        int heats(int h) {
            return h;
        }

        int ready() {
            return 100;
        }

        int burnt() {
            return ready() + 40;
        }

        boolean bursts(Batch b, int heat) {
            return false;
        }

        int worth(int p) {
            return p;
        }
    }

    static class Large extends Nut {
        @Override
        int heats(int h) {
            return Math.max(0, super.heats(h) - 1);
        }

        @Override
        int ready() {
            return super.ready() + 30;
        }
    }

    static class Small extends Nut {
        @Override
        int heats(int h) {
            return super.heats(h) + (h > 0 ? 1 : 0);
        }

        @Override
        int ready() {
            return super.ready() - 20;
        }

        @Override
        int burnt() {
            return ready() + 25;
        }
    }

    static class Sweet extends Large {
        @Override
        int ready() {
            return super.ready() + 10;
        }

        @Override
        int worth(int p) {
            return super.worth(p) + 2;
        }
    }

    static class Raw extends Small {
        @Override
        boolean bursts(Batch b, int heat) {
            return b.place == Due.PAN && b.roast >= 60 && heat >= 8;
        }
    }

    static class Wormed extends Nut {
        @Override
        int worth(int p) {
            return Math.max(0, super.worth(p) - 2);
        }
    }

    static class Old extends Wormed {
        @Override
        int heats(int h) {
            return super.heats(h) / 2;
        }

        @Override
        int worth(int p) {
            return super.worth(p) / 2;
        }
    }

    static final Nut[] KINDS = {new Nut(), new Large(), new Small(), new Sweet(), new Raw(), new Wormed(), new Old()};
    static final List<String> WORDS = List.of("nut", "large", "small", "sweet", "raw", "wormed", "old");

    static final class Batch {
        int kind;
        int bags = 9;
        int roast;
        int age;
        int place;

        Nut nut() {
            return KINDS[kind];
        }

        boolean ready() {
            return place != Due.GONE && roast >= nut().ready();
        }

        boolean burnt() {
            return roast >= nut().burnt();
        }

        Batch copied() {
            Batch b = new Batch();
            b.kind = kind;
            b.bags = bags;
            b.roast = roast;
            b.age = age;
            b.place = place;
            return b;
        }
    }

    static final class World {
        List<Batch> batches = new ArrayList<>();
        List<int[]> crowds = new ArrayList<>();
        List<Integer> putOnAt = new ArrayList<>();
        Integer[] spots = new Integer[10];
        int[] rules = {5, 4, 5};
        int minute;
        int coin;
        int corner;
        int walks;
        int sold;
        int wasted;
        int lost;
        int z = 1;

        World copied() {
            World w = new World();
            for (Batch b : batches) {
                w.batches.add(b.copied());
            }
            for (int[] c : crowds) {
                w.crowds.add(c.clone());
            }
            w.putOnAt.addAll(putOnAt);
            w.spots = spots.clone();
            w.rules = rules.clone();
            w.minute = minute;
            w.coin = coin;
            w.corner = corner;
            w.walks = walks;
            w.sold = sold;
            w.wasted = wasted;
            w.lost = lost;
            w.z = z;
            return w;
        }

        int room(int place) {
            int limit = place == Due.PAN ? 2 : place == Due.RIM ? 4 : 99;
            for (Batch b : batches) {
                if (b.place == place) {
                    limit--;
                }
            }
            return limit;
        }

        void lay(Batch b, int place) {
            b.place = place;
            if (place == Due.HEAP) {
                b.age = 0;
            } else if (place == Due.GONE) {
                wasted += b.bags;
                b.bags = 0;
            }
        }

        int come(int[] crowd) {
            int many = crowd[2] * (rules[2] + 1) / 11;
            return many - many * rules[1] / 100;
        }

        World go(int n) {
            for (int i = 0; i < n; i++) {
                minute();
            }
            return this;
        }

        void minute() {
            for (int i = putOnAt.size() - 1; i >= 0; i--) {
                if (putOnAt.get(i) + 6 == minute) {
                    putOnAt.remove(i);
                    rules[0] = Math.min(20, rules[0] + 3);
                }
            }
            if (minute % 5 == 4 && rules[0] > 0) {
                rules[0]--;
            }
            for (Batch b : batches) {
                if (b.place == Due.PAN || b.place == Due.RIM) {
                    b.roast = Math.min(999, b.roast + b.nut().heats(b.place == Due.PAN ? rules[0] : rules[0] / 2));
                    if (b.nut().bursts(b, rules[0])) {
                        lay(b, Due.GONE);
                    }
                }
            }
            for (Batch b : batches) {
                b.age += b.place == Due.HEAP ? 1 : 0;
            }
            if (walks > 0) {
                walks--;
            } else {
                for (int[] crowd : crowds) {
                    if (crowd[0] == corner && crowd[1] == minute) {
                        for (int i = come(crowd); i > 0; i--) {
                            buy();
                        }
                    }
                }
            }
            minute++;
        }

        void buy() {
            Batch b = freshest(0, 10);
            int parts = 1;
            if (b == null) {
                b = freshest(11, 25);
                parts = 2;
            }
            if (b == null) {
                lost++;
                return;
            }
            b.bags--;
            sold++;
            coin += b.nut().worth(rules[1]) / parts;
        }

        Batch freshest(int from, int to) {
            Batch best = null;
            for (Batch b : batches) {
                if (b.place == Due.HEAP && b.bags > 0 && b.ready() && !b.burnt() && b.age >= from && b.age <= to
                        && (best == null || b.age < best.age)) {
                    best = b;
                }
            }
            return best;
        }

        World walk(int to) {
            walks = 3 * Math.abs(corner - to);
            corner = to;
            return this;
        }

        void shovel(int n) {
            for (int i = 0; i < n; i++) {
                putOnAt.add(minute);
            }
        }
    }

    World w = new World();
    World kept;
    List<Integer> tape = new ArrayList<>();
    int[][] sheets = new int[4][];
    int[] bits = new int[4];
    int[] status = new int[7];

    /** What a call is due to answer. */
    int answer(String call, int... a) {
        try {
            return ask(call, a);
        } catch (Finding f) {
            status[Due.BEYOND - f.code]++;
            return f.code;
        }
    }

    private static void need(boolean so, int code) {
        if (!so) {
            throw new Finding(code);
        }
    }

    private static void beyond(int v, int least, int most) {
        need(v >= least && v <= most, Due.BEYOND);
    }

    private Batch batch(int i) {
        beyond(i, 0, w.batches.size() - 1);
        return w.batches.get(i);
    }

    private int[] crowd(int i) {
        beyond(i, 0, w.crowds.size() - 1);
        return w.crowds.get(i);
    }

    private void until(int n) {
        need(w.minute + n <= 999, Due.STATE);
    }

    private void plan(int n) {
        beyond(n, 1, 120);
    }

    private int ask(String call, int[] a) {
        switch (call) {
            case "batch": case "of": case "change": case "put": case "heats": case "how":
                return askBatches(call, a);
            case "shovel": case "rule": case "walk": case "crowd": case "crowdOf": case "late":
                return askFire(call, a);
            case "minutes": case "now": case "at": case "ahead": case "ready": case "burnt":
                return askMinutes(call, a);
            case "feed": case "wipe": case "text":
                return askTexts(call, a);
            case "hold": case "as": case "sheet": case "write": case "copy": case "load": case "judge":
                return askSheets(call, a);
            case "image": case "undo": case "tear": case "count": case "status":
                return askImages(call, a);
            default:
                return askPlans(call, a);
        }
    }

    private int askBatches(String call, int[] a) {
        if (call.equals("batch")) {
            beyond(a[0], 0, 6);
            need(w.batches.size() < 10, Due.FULL);
            Batch b = new Batch();
            b.kind = a[0];
            w.batches.add(b);
            return w.batches.size() - 1;
        }
        Batch b = batch(a[0]);
        switch (call) {
            case "of": {
                beyond(a[1], 0, 7);
                int[] told = {b.kind, b.bags, b.roast, b.age, b.place, b.nut().ready(), b.nut().burnt(),
                    b.nut().worth(w.rules[1])};
                return told[a[1]];
            }
            case "change": {
                beyond(a[1], 0, 3);
                int[] most = {6, 9, 999, 999};
                beyond(a[2], 0, most[a[1]]);
                int[] was = {b.kind, b.bags, b.roast, b.age};
                b.kind = a[1] == 0 ? a[2] : b.kind;
                b.bags = a[1] == 1 ? a[2] : b.bags;
                b.roast = a[1] == 2 ? a[2] : b.roast;
                b.age = a[1] == 3 ? a[2] : b.age;
                return was[a[1]];
            }
            case "put": {
                beyond(a[1], 1, 4);
                need(b.place != 4 && b.place != a[1], Due.STATE);
                need(w.room(a[1]) > 0, Due.FULL);
                int was = b.place;
                w.lay(b, a[1]);
                return was;
            }
            case "heats":
                beyond(a[1], 0, 20);
                return b.nut().heats(a[1]);
            default:
                if (b.place == Due.GONE) {
                    return 5;
                }
                if (!b.ready()) {
                    return 0;
                }
                return b.burnt() ? 4 : b.age <= 10 ? 1 : b.age <= 25 ? 2 : 3;
        }
    }

    private int askFire(String call, int[] a) {
        switch (call) {
            case "shovel":
                beyond(a[0], 1, 9);
                w.shovel(a[0]);
                return w.putOnAt.size();
            case "rule": {
                beyond(a[0], 0, 2);
                beyond(a[1], 0, new int[] {20, 99, 9}[a[0]]);
                int was = w.rules[a[0]];
                w.rules[a[0]] = a[1];
                return was;
            }
            case "walk":
                beyond(a[0], 0, 3);
                need(w.walks == 0, Due.STATE);
                return w.walk(a[0]).walks;
            case "crowd":
                beyond(a[0], 0, 3);
                beyond(a[1], 0, 999);
                beyond(a[2], 0, 400);
                need(w.crowds.size() < 12, Due.FULL);
                w.crowds.add(a.clone());
                return w.crowds.size() - 1;
            case "crowdOf": {
                int[] c = crowd(a[0]);
                beyond(a[1], 0, 3);
                return a[1] == 3 ? w.come(c) : c[a[1]];
            }
            default: {
                int[] c = crowd(a[0]);
                beyond(a[1], 1, 2);
                beyond(a[2], 0, a[1] == 1 ? 999 : 400);
                int was = c[a[1]];
                c[a[1]] = a[2];
                return was;
            }
        }
    }

    private int askMinutes(String call, int[] a) {
        switch (call) {
            case "minutes": {
                plan(a[0]);
                until(a[0]);
                int before = w.sold;
                return w.go(a[0]).sold - before;
            }
            case "now":
                beyond(a[0], 0, 8);
                return new int[] {w.minute, w.coin, w.rules[0], w.corner, w.walks, w.sold, w.wasted, w.lost,
                    w.putOnAt.size()}[a[0]];
            case "at":
                beyond(a[0], 0, 4);
                return setOf(w, b -> b.place == a[0] ? 1 : 0);
            case "ahead": {
                beyond(a[0], 0, 200);
                beyond(a[1], 0, 5 + w.batches.size());
                until(a[0]);
                World t = w.copied().go(a[0]);
                if (a[1] > 5) {
                    return t.batches.get(a[1] - 6).roast;
                }
                int bags = 0;
                for (Batch b : t.batches) {
                    bags += b.place == Due.GONE ? 0 : b.bags;
                }
                int done = setOf(t, b -> (b.place == Due.PAN || b.place == Due.RIM) && b.ready() && !b.burnt() ? 1 : 0);
                return new int[] {t.coin - w.coin, t.sold - w.sold, t.lost - w.lost, t.rules[0], done, bags}[a[1]];
            }
            default: {
                need(batch(a[0]).place != Due.GONE, Due.STATE);
                need(w.minute <= 799, Due.STATE);
                for (int i = 0; i <= 200; i++) {
                    Batch b = w.copied().go(i).batches.get(a[0]);
                    if (call.equals("ready") ? b.ready() : b.place == Due.GONE || b.burnt()) {
                        return i;
                    }
                }
                throw new Finding(Due.NONE);
            }
        }
    }

    private static int setOf(World w, ToIntFunction<Batch> has) {
        int set = 0;
        for (int i = 0; i < w.batches.size(); i++) {
            set += has.applyAsInt(w.batches.get(i)) << i;
        }
        return set;
    }

    /** The least number of those from 0 up to most that brings most. */
    private static int bestOf(int most, ToIntFunction<Integer> coin) {
        int best = 0;
        for (int i = 1; i <= most; i++) {
            if (coin.applyAsInt(i) > coin.applyAsInt(best)) {
                best = i;
            }
        }
        return best;
    }

    private int askPlans(String call, int[] a) {
        switch (call) {
            case "putOn":
                return putOn(a[0], a[1]);
            case "takeOff": {
                Batch b = batch(a[0]);
                plan(a[1]);
                need(b.place == Due.PAN || b.place == Due.RIM, Due.STATE);
                until(a[1]);
                return bestOf(60, wait -> takenOff(a[0], wait, a[1]));
            }
            case "shovels":
                plan(a[0]);
                until(a[0]);
                return bestOf(9, n -> {
                    World t = w.copied();
                    t.shovel(n);
                    return t.go(a[0]).coin;
                });
            case "corner":
                plan(a[0]);
                need(w.walks == 0, Due.STATE);
                until(a[0]);
                return bestOf(3, c -> w.copied().walk(c).go(a[0]).coin);
            case "two": {
                beyond(a[0], 1, 60);
                plan(a[1]);
                need(a[1] > a[0], Due.BEYOND);
                need(w.walks == 0, Due.STATE);
                until(a[1]);
                int best = bestOf(15, i -> {
                    World t = w.copied().walk(i / 4).go(a[0]);
                    return (t.walks == 0 ? t.walk(i % 4) : t).go(a[1] - a[0]).coin;
                });
                return best / 4 * 10 + best % 4;
            }
            case "price":
                plan(a[0]);
                until(a[0]);
                return bestOf(99, p -> {
                    World t = w.copied();
                    t.rules[1] = p;
                    return t.go(a[0]).coin;
                });
            case "kindFor":
                batch(a[0]);
                plan(a[1]);
                until(a[1]);
                return bestOf(6, kind -> {
                    World t = w.copied();
                    t.batches.get(a[0]).kind = kind;
                    return t.go(a[1]).coin;
                });
            case "heatFor":
                return heatFor(a[0], a[1]);
            case "brings":
                crowd(a[0]);
                plan(a[1]);
                until(a[1]);
                return brings(a[0], a[1]);
            case "best":
                plan(a[0]);
                until(a[0]);
                need(!w.crowds.isEmpty(), Due.NONE);
                return bestOf(w.crowds.size() - 1, c -> brings(c, a[0]));
            case "left":
                return left(a[0]);
            case "boys":
                return boys(a[0]);
            default: {
                int was = w.z;
                w.z = a[0];
                return was;
            }
        }
    }

    private int putOn(int batch, int m) {
        Batch b = batch(batch);
        beyond(m, 0, 999);
        need(b.place == 0 && w.minute <= 739, Due.STATE);
        for (int wait = 60; wait >= 0; wait--) {
            World t = w.copied().go(wait);
            if (t.room(Due.PAN) > 0) {
                t.batches.get(batch).place = Due.PAN;
                for (int i = 0; i <= 200 && !t.batches.get(batch).ready(); i++) {
                    t.minute();
                }
                int later = t.minute - w.minute - wait;
                if (t.batches.get(batch).ready() && t.minute == m && later <= 200) {
                    return wait;
                }
            }
        }
        throw new Finding(Due.NONE);
    }

    private int takenOff(int batch, int wait, int n) {
        if (wait >= n) {
            return w.copied().go(n).coin;
        }
        World t = w.copied().go(wait);
        if (t.batches.get(batch).place != Due.GONE) {
            t.lay(t.batches.get(batch), Due.HEAP);
        }
        return t.go(n - wait).coin;
    }

    private int heatFor(int batch, int n) {
        Batch b = batch(batch);
        plan(n);
        need(b.place == Due.PAN || b.place == Due.RIM, Due.STATE);
        until(n);
        for (int heat = 0; heat <= 20; heat++) {
            World t = w.copied();
            t.rules[0] = heat;
            for (int i = 0; i <= n; i++) {
                if (t.batches.get(batch).ready()) {
                    return heat;
                }
                t.minute();
            }
        }
        throw new Finding(Due.NONE);
    }

    private int brings(int crowd, int n) {
        World t = w.copied();
        t.crowds.get(crowd)[2] = 0;
        return w.copied().go(n).coin - t.go(n).coin;
    }

    private int left(int n) {
        plan(n);
        until(n);
        World t = w.copied().go(n);
        int best = -1;
        for (int i = 0; i < t.batches.size(); i++) {
            if (t.batches.get(i).place != Due.GONE
                    && (best < 0 || t.batches.get(i).bags > t.batches.get(best).bags)) {
                best = i;
            }
        }
        need(best >= 0, Due.NONE);
        return best;
    }

    private int boys(int n) {
        beyond(n, 1, 12);
        need(!w.batches.isEmpty(), Due.STATE);
        int bags = 0;
        for (int i = 0; i < n; i++) {
            w.z = w.z * 1103515245 + 12345;
            Batch b = w.batches.get((w.z >>> 8) % w.batches.size());
            if (b.place == Due.HEAP && b.bags > 0) {
                b.bags--;
                bags++;
            }
        }
        return bags;
    }

    private int askTexts(String call, int[] a) {
        if (call.equals("wipe")) {
            int was = tape.size();
            tape.clear();
            return was;
        }
        if (call.equals("feed")) {
            beyond(a[1], 1, 4);
            need(tape.size() + a[1] <= 120, Due.FULL);
            for (int i = a[1]; i > 0; i--) {
                tape.add(a[0] >> 8 * (i - 1) & 255);
            }
            return tape.size();
        }
        World before = w.copied();
        StringBuilder text = new StringBuilder();
        for (int b : tape) {
            text.append((char) b);
        }
        tape.clear();
        try {
            return new Parser(text.toString()).text(w);
        } catch (Fault f) {
            w = before;
            return -1 - f.place;
        }
    }

    static final class Fault extends RuntimeException {
        private static final long serialVersionUID = 1L;
        final int place;

        Fault(int place) {
            super(null, null, false, false);
            this.place = place;
        }
    }

    /** Cuts the whole text into tokens first, then reads them by the grammar. */
    static final class Parser {
        final List<String> tokens = new ArrayList<>();
        final List<Integer> places = new ArrayList<>();
        int i = 0;

        Parser(String text) {
            int p = 0;
            while (p < text.length()) {
                int q = p + 1;
                String all = text.substring(p, q);
                while (q < text.length() && (all + text.charAt(q)).matches("[a-z]+|[0-9]+")) {
                    all += text.charAt(q++);
                }
                if (!all.equals(" ")) {
                    tokens.add(all);
                    places.add(p);
                }
                p = q;
            }
            tokens.add("");
            places.add(text.length());
        }

        String token() {
            return tokens.get(i);
        }

        void fault(boolean so) {
            if (so) {
                throw new Fault(places.get(i));
            }
        }

        boolean taken(String token) {
            if (!token().equals(token)) {
                return false;
            }
            i++;
            return true;
        }

        void take(String token) {
            fault(!taken(token));
        }

        int number(int most) {
            String digits = token().replaceAll("^0+(?=.)", "");
            fault(!digits.matches("[0-9]{1,3}") || Integer.parseInt(digits) > most);
            i++;
            return Integer.parseInt(digits);
        }

        int text(World w) {
            int items = 0;
            do {
                item(w);
                items++;
            } while (taken(";"));
            fault(!token().isEmpty());
            return items;
        }

        void item(World w) {
            int rule = List.of("heat", "price", "cold").indexOf(token());
            if (rule >= 0) {
                i++;
                w.rules[rule] = number(new int[] {20, 99, 9}[rule]);
            } else if (token().equals("crowd")) {
                fault(w.crowds.size() == 12);
                i++;
                int many = number(400);
                take("at");
                int corner = number(3);
                take("minute");
                w.crowds.add(new int[] {corner, number(999), many});
            } else {
                batch(w);
            }
        }

        void batch(World w) {
            Batch b = new Batch();
            b.kind = WORDS.indexOf(token());
            fault(b.kind < 0 || w.batches.size() == 10);
            i++;
            if (taken("roast")) {
                b.roast = number(999);
            }
            int place = Arrays.asList("pan", "rim", "heap").indexOf(token()) + 1;
            if (place > 0) {
                fault(w.room(place) == 0);
                i++;
                b.place = place;
            }
            w.batches.add(b);
        }
    }

    private int[] sheet(int s) {
        beyond(s, 0, 3);
        need(sheets[s] != null, Due.MISSING);
        return sheets[s];
    }

    private int askSheets(String call, int[] a) {
        switch (call) {
            case "hold":
                beyond(a[0], 0, 9);
                beyond(a[1], -1, w.batches.size() - 1);
                w.spots[a[0]] = a[1] < 0 ? null : (Integer) a[1];
                return 1;
            case "as":
                beyond(a[0], 0, 9);
                beyond(a[1], 0, 6);
                need(w.spots[a[0]] != null, Due.MISSING);
                need(KINDS[a[1]].getClass().isInstance(w.batches.get(w.spots[a[0]]).nut()), Due.KIND);
                return w.spots[a[0]];
            case "sheet":
                beyond(a[0], 0, 3);
                need(List.of(0, 8, 16, 32).contains(a[1]), Due.BEYOND);
                need(a[2] >= 0, Due.SIZE);
                need(a[2] <= 40, Due.BEYOND);
                bits[a[0]] = a[1];
                sheets[a[0]] = a[1] == 0 ? null : new int[a[2]];
                return a[1] == 0 ? 0 : a[2];
            case "write": {
                int[] row = sheet(a[0]);
                beyond(a[1], 0, row.length - 1);
                row[a[1]] = bits[a[0]] == 8 ? (byte) a[2] : bits[a[0]] == 16 ? (short) a[2] : a[2];
                return 1;
            }
            case "copy": {
                beyond(a[0], 0, 3);
                beyond(a[2], 0, 3);
                int[] from = sheet(a[0]);
                int[] to = sheet(a[2]);
                need(bits[a[0]] == bits[a[2]], Due.KIND);
                need(Math.min(a[1], Math.min(a[3], a[4])) >= 0, Due.BEYOND);
                need((long) a[1] + a[4] <= from.length && (long) a[3] + a[4] <= to.length, Due.BEYOND);
                int[] as = from.clone();
                for (int i = 0; i < a[4]; i++) {
                    to[a[3] + i] = as[a[1] + i];
                }
                return a[4];
            }
            case "load": {
                int[] row = sheet(a[0]);
                int i = 0;
                while (i < row.length && i < w.batches.size() && row[i] >= 0 && row[i] <= 9) {
                    w.batches.get(i).bags = row[i];
                    i++;
                }
                return i;
            }
            default: {
                int[] row = sheet(a[0]);
                until(row.length);
                for (int i = 0; i < row.length; i++) {
                    if (w.copied().go(i + 1).sold - w.copied().go(i).sold != row[i]) {
                        return i + 1;
                    }
                }
                return 0;
            }
        }
    }

    private int askImages(String call, int[] a) {
        switch (call) {
            case "image":
                kept = w.copied();
                return 1;
            case "undo":
                need(kept != null, Due.NONE);
                w = kept.copied();
                return w.minute;
            case "tear": {
                int was = kept == null ? 0 : 1;
                kept = null;
                return was;
            }
            case "count": {
                beyond(a[0], 0, 8);
                int bags = 0;
                for (Batch b : w.batches) {
                    bags += b.bags;
                }
                int many = 0;
                for (int[] c : w.crowds) {
                    many += c[2];
                }
                int held = 0;
                for (Integer spot : w.spots) {
                    held += spot == null ? 0 : 1;
                }
                return new int[] {w.batches.size(), w.crowds.size(), bags, many, w.rules[1], w.rules[2], tape.size(),
                    w.z, held}[a[0]];
            }
            default:
                beyond(a[0], -1, 6);
                return a[0] < 0 ? Arrays.stream(status).sum() : status[a[0]];
        }
    }
}
