/** Chestnuts on a corner: the fire, the nuts, the crowds, the cart, and what to do when. */
public final class ChestnutCorner {
    private static final int LOW = -1000001;
    private static final int BEYOND = 0;
    private static final int FULL = 1;
    private static final int KIND = 2;
    private static final int NONE = 3;
    private static final int STATE = 4;
    private static final int MISSING = 5;
    private static final int SIZE = 6;
    private static final int FINDINGS = 7;

    private static final int NUT = 0;
    private static final int LARGE = 1;
    private static final int SMALL = 2;
    private static final int SWEET = 3;
    private static final int RAW = 4;
    private static final int WORMED = 5;
    private static final int OLD = 6;

    private static final int SACK = 0;
    private static final int PAN = 1;
    private static final int RIM = 2;
    private static final int HEAP = 3;
    private static final int GONE = 4;

    private static final int HEAT = 0;
    private static final int PRICE = 1;
    private static final int COLD = 2;

    private static final int MOST_BATCHES = 10;
    private static final int MOST_CROWDS = 12;
    private static final int SPOTS = 10;
    private static final int MOST_BAGS = 9;
    private static final int MOST_ROAST = 999;
    private static final int MOST_AGE = 999;
    private static final int MOST_HEAT = 20;
    private static final int MOST_PRICE = 99;
    private static final int MOST_COLD = 9;
    private static final int MOST_SHOVELS = 9;
    private static final int LAST_CORNER = 3;
    private static final int LAST_MINUTE = 999;
    private static final int MOST_MANY = 400;
    private static final int GOOD_AGE = 10;
    private static final int COOL_AGE = 25;
    private static final int SHOVEL_LAG = 7;
    private static final int FARTHEST = 200;
    private static final int LONGEST_WAIT = 60;
    private static final int LONGEST_PLAN = 120;
    private static final int MOST_BOYS = 12;

    private final Evening evening = new Evening();
    private final Evening kept = new Evening();
    // Two evenings to try things on, made once: a call makes no object.
    private final Evening trial = new Evening();
    private final Evening waiting = new Evening();
    private final Choice choice = new Choice();
    private final Tape tape = new Tape();
    private final TextReader reader = new TextReader(tape, trial);
    private final Sheets sheets = new Sheets();
    private final int[] findings = new int[FINDINGS];
    private boolean isKept = false;

    public ChestnutCorner() {
    }

    // ---- batches

    public int batch(int kind) {
        if (!within(kind, NUT, OLD)) {
            return finding(BEYOND);
        }
        if (evening.nuts.isFull()) {
            return finding(FULL);
        }
        return evening.nuts.add(kind);
    }

    public int of(int batch, int what) {
        if (!isBatch(batch)) {
            return finding(BEYOND);
        }
        int kind = evening.nuts.kind[batch];
        switch (what) {
            case 0: return kind;
            case 1: return evening.nuts.bags[batch];
            case 2: return evening.nuts.roast[batch];
            case 3: return evening.nuts.age[batch];
            case 4: return evening.nuts.place[batch];
            case 5: return Kinds.readyFrom(kind);
            case 6: return Kinds.burntFrom(kind);
            case 7: return Kinds.worthOf(kind, evening.price);
            default: return finding(BEYOND);
        }
    }

    public int change(int batch, int what, int v) {
        if (!isBatch(batch)) {
            return finding(BEYOND);
        }
        switch (what) {
            case 0: return exchange(evening.nuts.kind, batch, v, OLD);
            case 1: return exchange(evening.nuts.bags, batch, v, MOST_BAGS);
            case 2: return exchange(evening.nuts.roast, batch, v, MOST_ROAST);
            case 3: return exchange(evening.nuts.age, batch, v, MOST_AGE);
            default: return finding(BEYOND);
        }
    }

    public int put(int batch, int place) {
        if (!isBatch(batch) || !within(place, PAN, GONE)) {
            return finding(BEYOND);
        }
        int was = evening.nuts.place[batch];
        if (was == GONE || was == place) {
            return finding(STATE);
        }
        if (!evening.nuts.hasRoom(place)) {
            return finding(FULL);
        }
        evening.wasted += evening.nuts.lay(batch, place);
        return was;
    }

    public int heats(int batch, int h) {
        if (!isBatch(batch) || !within(h, 0, MOST_HEAT)) {
            return finding(BEYOND);
        }
        return Kinds.heatsOf(evening.nuts.kind[batch], h);
    }

    public int how(int batch) {
        if (!isBatch(batch)) {
            return finding(BEYOND);
        }
        if (evening.nuts.isGone(batch)) {
            return 5;
        }
        if (evening.nuts.isBurnt(batch)) {
            return 4;
        }
        if (!evening.nuts.isReady(batch)) {
            return 0;
        }
        int age = evening.nuts.age[batch];
        if (age <= GOOD_AGE) {
            return 1;
        }
        return age <= COOL_AGE ? 2 : 3;
    }

    // ---- fire, cart, crowds

    public int shovel(int n) {
        if (!within(n, 1, MOST_SHOVELS)) {
            return finding(BEYOND);
        }
        evening.addShovels(n);
        return evening.shovelsDue();
    }

    public int rule(int what, int v) {
        if (!within(what, HEAT, COLD) || !within(v, 0, mostOfRule(what))) {
            return finding(BEYOND);
        }
        int was = evening.ruled(what);
        evening.setRule(what, v);
        return was;
    }

    public int walk(int corner) {
        if (!isCorner(corner)) {
            return finding(BEYOND);
        }
        if (evening.walks > 0) {
            return finding(STATE);
        }
        evening.setOut(corner);
        return evening.walks;
    }

    public int crowd(int corner, int minute, int many) {
        if (!isCorner(corner) || !within(minute, 0, LAST_MINUTE) || !within(many, 0, MOST_MANY)) {
            return finding(BEYOND);
        }
        if (evening.crowds.isFull()) {
            return finding(FULL);
        }
        return evening.crowds.add(corner, minute, many);
    }

    public int crowdOf(int crowd, int what) {
        if (!isCrowd(crowd)) {
            return finding(BEYOND);
        }
        switch (what) {
            case 0: return evening.crowds.corner[crowd];
            case 1: return evening.crowds.minute[crowd];
            case 2: return evening.crowds.many[crowd];
            case 3: return evening.coming(crowd);
            default: return finding(BEYOND);
        }
    }

    public int late(int crowd, int what, int v) {
        if (!isCrowd(crowd)) {
            return finding(BEYOND);
        }
        switch (what) {
            case 1: return exchange(evening.crowds.minute, crowd, v, LAST_MINUTE);
            case 2: return exchange(evening.crowds.many, crowd, v, MOST_MANY);
            default: return finding(BEYOND);
        }
    }

    // ---- minutes

    public int minutes(int n) {
        if (!isPlan(n)) {
            return finding(BEYOND);
        }
        if (isTooLate(n)) {
            return finding(STATE);
        }
        int before = evening.sold;
        evening.pass(n);
        return evening.sold - before;
    }

    public int now(int what) {
        switch (what) {
            case 0: return evening.minute;
            case 1: return evening.coin;
            case 2: return evening.heat;
            case 3: return evening.corner;
            case 4: return evening.walks;
            case 5: return evening.sold;
            case 6: return evening.wasted;
            case 7: return evening.lost;
            case 8: return evening.shovelsDue();
            default: return finding(BEYOND);
        }
    }

    public int at(int place) {
        if (!within(place, SACK, GONE)) {
            return finding(BEYOND);
        }
        return evening.nuts.setAt(place);
    }

    public int ahead(int n, int what) {
        if (!within(n, 0, FARTHEST) || !within(what, 0, 5 + evening.nuts.count)) {
            return finding(BEYOND);
        }
        if (isTooLate(n)) {
            return finding(STATE);
        }
        trial.become(evening);
        int coin = trial.pass(n);
        switch (what) {
            case 0: return coin;
            case 1: return trial.sold - evening.sold;
            case 2: return trial.lost - evening.lost;
            case 3: return trial.heat;
            case 4: return trial.nuts.setDoneOverFire();
            case 5: return trial.nuts.bagsNotGone();
            default: return trial.nuts.roast[what - 6];
        }
    }

    public int ready(int batch) {
        if (!isBatch(batch)) {
            return finding(BEYOND);
        }
        if (evening.nuts.isGone(batch) || isTooLate(FARTHEST)) {
            return finding(STATE);
        }
        trial.become(evening);
        int first = minutesToReady(batch, FARTHEST);
        return first < 0 ? finding(NONE) : first;
    }

    public int burnt(int batch) {
        if (!isBatch(batch)) {
            return finding(BEYOND);
        }
        if (evening.nuts.isGone(batch) || isTooLate(FARTHEST)) {
            return finding(STATE);
        }
        trial.become(evening);
        for (int i = 0; i <= FARTHEST; i++) {
            if (trial.nuts.isGone(batch) || trial.nuts.isBurnt(batch)) {
                return i;
            }
            trial.pass(1);
        }
        return finding(NONE);
    }

    // ---- when, where, how much

    public int putOn(int batch, int m) {
        if (!isBatch(batch) || !within(m, 0, LAST_MINUTE)) {
            return finding(BEYOND);
        }
        if (evening.nuts.place[batch] != SACK || isTooLate(LONGEST_WAIT + FARTHEST)) {
            return finding(STATE);
        }
        int latest = -1;
        waiting.become(evening);
        for (int wait = 0; wait <= LONGEST_WAIT; wait++) {
            if (waiting.nuts.hasRoom(PAN) && isReadyJustAt(batch, m)) {
                latest = wait;
            }
            waiting.pass(1);
        }
        return latest < 0 ? finding(NONE) : latest;
    }

    public int takeOff(int batch, int n) {
        if (!isBatch(batch) || !isPlan(n)) {
            return finding(BEYOND);
        }
        if (!evening.nuts.isOverFire(batch) || isTooLate(n)) {
            return finding(STATE);
        }
        choice.clear();
        waiting.become(evening);
        // From n on nothing is taken off, so that one wait of n stands for all the longer ones.
        int longest = Math.min(n, LONGEST_WAIT);
        for (int wait = 0; wait <= longest; wait++) {
            choice.offer(wait, coinTakenOff(batch, n - wait));
            waiting.pass(1);
        }
        return choice.best;
    }

    public int shovels(int n) {
        if (!isPlan(n)) {
            return finding(BEYOND);
        }
        if (isTooLate(n)) {
            return finding(STATE);
        }
        choice.clear();
        for (int shovels = 0; shovels <= MOST_SHOVELS; shovels++) {
            trial.become(evening);
            trial.addShovels(shovels);
            choice.offer(shovels, trial.pass(n));
        }
        return choice.best;
    }

    public int corner(int n) {
        if (!isPlan(n)) {
            return finding(BEYOND);
        }
        if (evening.walks > 0 || isTooLate(n)) {
            return finding(STATE);
        }
        choice.clear();
        for (int corner = 0; corner <= LAST_CORNER; corner++) {
            trial.become(evening);
            trial.setOut(corner);
            choice.offer(corner, trial.pass(n));
        }
        return choice.best;
    }

    public int two(int k, int n) {
        if (!within(k, 1, LONGEST_WAIT) || !isPlan(n) || n <= k) {
            return finding(BEYOND);
        }
        if (evening.walks > 0 || isTooLate(n)) {
            return finding(STATE);
        }
        choice.clear();
        for (int first = 0; first <= LAST_CORNER; first++) {
            waiting.become(evening);
            waiting.setOut(first);
            int before = waiting.pass(k);
            for (int second = 0; second <= LAST_CORNER; second++) {
                choice.offer(10 * first + second, before + coinFromCorner(second, n - k));
            }
        }
        return choice.best;
    }

    public int price(int n) {
        if (!isPlan(n)) {
            return finding(BEYOND);
        }
        if (isTooLate(n)) {
            return finding(STATE);
        }
        choice.clear();
        for (int price = 0; price <= MOST_PRICE; price++) {
            trial.become(evening);
            trial.price = price;
            choice.offer(price, trial.pass(n));
        }
        return choice.best;
    }

    public int kindFor(int batch, int n) {
        if (!isBatch(batch) || !isPlan(n)) {
            return finding(BEYOND);
        }
        if (isTooLate(n)) {
            return finding(STATE);
        }
        choice.clear();
        for (int kind = NUT; kind <= OLD; kind++) {
            trial.become(evening);
            trial.nuts.kind[batch] = kind;
            choice.offer(kind, trial.pass(n));
        }
        return choice.best;
    }

    public int heatFor(int batch, int n) {
        if (!isBatch(batch) || !isPlan(n)) {
            return finding(BEYOND);
        }
        if (!evening.nuts.isOverFire(batch) || isTooLate(n)) {
            return finding(STATE);
        }
        for (int heat = 0; heat <= MOST_HEAT; heat++) {
            trial.become(evening);
            trial.heat = heat;
            if (minutesToReady(batch, n) >= 0) {
                return heat;
            }
        }
        return finding(NONE);
    }

    public int brings(int crowd, int n) {
        if (!isCrowd(crowd) || !isPlan(n)) {
            return finding(BEYOND);
        }
        if (isTooLate(n)) {
            return finding(STATE);
        }
        trial.become(evening);
        int with = trial.pass(n);
        return with - coinWithout(crowd, n);
    }

    public int best(int n) {
        if (!isPlan(n)) {
            return finding(BEYOND);
        }
        if (isTooLate(n)) {
            return finding(STATE);
        }
        if (evening.crowds.count == 0) {
            return finding(NONE);
        }
        // COIN with all CROWDS is the same for each: the one without which least is had brings most.
        choice.clear();
        for (int crowd = 0; crowd < evening.crowds.count; crowd++) {
            choice.offer(crowd, -coinWithout(crowd, n));
        }
        return choice.best;
    }

    public int left(int n) {
        if (!isPlan(n)) {
            return finding(BEYOND);
        }
        if (isTooLate(n)) {
            return finding(STATE);
        }
        trial.become(evening);
        trial.pass(n);
        choice.clear();
        for (int batch = 0; batch < trial.nuts.count; batch++) {
            if (!trial.nuts.isGone(batch)) {
                choice.offer(batch, trial.nuts.bags[batch]);
            }
        }
        return choice.best < 0 ? finding(NONE) : choice.best;
    }

    public int boys(int n) {
        if (!within(n, 1, MOST_BOYS)) {
            return finding(BEYOND);
        }
        int count = evening.nuts.count;
        if (count == 0) {
            return finding(STATE);
        }
        int taken = 0;
        for (int i = 0; i < n; i++) {
            int batch = evening.draw() % count;
            if (evening.nuts.place[batch] == HEAP && evening.nuts.bags[batch] > 0) {
                evening.nuts.bags[batch]--;
                taken++;
            }
        }
        return taken;
    }

    public int seed(int v) {
        int was = evening.z;
        evening.z = v;
        return was;
    }

    // ---- texts

    public int feed(int bytes, int n) {
        if (!within(n, 1, 4)) {
            return finding(BEYOND);
        }
        if (!tape.hasRoom(n)) {
            return finding(FULL);
        }
        tape.append(bytes, n);
        return tape.length;
    }

    public int wipe() {
        int was = tape.length;
        tape.length = 0;
        return was;
    }

    public int text() {
        trial.become(evening);
        int items = reader.readText();
        if (items >= 0) {
            evening.become(trial);
        }
        tape.length = 0;
        return items;
    }

    // ---- spots, sheets

    public int hold(int spot, int batch) {
        if (!isSpot(spot) || (batch != -1 && !isBatch(batch))) {
            return finding(BEYOND);
        }
        evening.spots[spot] = batch;
        return 1;
    }

    public int as(int spot, int kind) {
        if (!isSpot(spot) || !within(kind, NUT, OLD)) {
            return finding(BEYOND);
        }
        int batch = evening.spots[spot];
        if (!isBatch(batch)) {
            return finding(MISSING);
        }
        if (!Kinds.isUnder(evening.nuts.kind[batch], kind)) {
            return finding(KIND);
        }
        return batch;
    }

    public int sheet(int s, int bits, int n) {
        if (!sheets.isSheet(s) || !(bits == 0 || bits == 8 || bits == 16 || bits == 32)) {
            return finding(BEYOND);
        }
        if (n < 0) {
            return finding(SIZE);
        }
        if (n > Sheets.LONGEST) {
            return finding(BEYOND);
        }
        sheets.lay(s, bits, bits == 0 ? 0 : n);
        return sheets.size[s];
    }

    public int write(int s, int i, int v) {
        if (!sheets.isSheet(s)) {
            return finding(BEYOND);
        }
        if (sheets.isMissing(s)) {
            return finding(MISSING);
        }
        if (i < 0 || i >= sheets.size[s]) {
            return finding(BEYOND);
        }
        sheets.setNumber(s, i, v);
        return 1;
    }

    public int copy(int s, int from, int t, int to, int n) {
        if (!sheets.isSheet(s) || !sheets.isSheet(t)) {
            return finding(BEYOND);
        }
        if (sheets.isMissing(s) || sheets.isMissing(t)) {
            return finding(MISSING);
        }
        if (sheets.bits[s] != sheets.bits[t]) {
            return finding(KIND);
        }
        if (!sheets.hasNumbers(s, from, n) || !sheets.hasNumbers(t, to, n)) {
            return finding(BEYOND);
        }
        sheets.move(s, from, t, to, n);
        return n;
    }

    public int load(int s) {
        if (!sheets.isSheet(s)) {
            return finding(BEYOND);
        }
        if (sheets.isMissing(s)) {
            return finding(MISSING);
        }
        int most = Math.min(sheets.size[s], evening.nuts.count);
        for (int i = 0; i < most; i++) {
            int bags = sheets.numberAt(s, i);
            if (!within(bags, 0, MOST_BAGS)) {
                return i;
            }
            evening.nuts.bags[i] = bags;
        }
        return most;
    }

    public int judge(int s) {
        if (!sheets.isSheet(s)) {
            return finding(BEYOND);
        }
        if (sheets.isMissing(s)) {
            return finding(MISSING);
        }
        if (isTooLate(sheets.size[s])) {
            return finding(STATE);
        }
        trial.become(evening);
        for (int i = 0; i < sheets.size[s]; i++) {
            int before = trial.sold;
            trial.pass(1);
            if (trial.sold - before != sheets.numberAt(s, i)) {
                return 1 + i;
            }
        }
        return 0;
    }

    // ---- images

    public int image() {
        kept.become(evening);
        isKept = true;
        return 1;
    }

    public int undo() {
        if (!isKept) {
            return finding(NONE);
        }
        evening.become(kept);
        return evening.minute;
    }

    public int tear() {
        int was = isKept ? 1 : 0;
        isKept = false;
        return was;
    }

    public int count(int what) {
        switch (what) {
            case 0: return evening.nuts.count;
            case 1: return evening.crowds.count;
            case 2: return evening.nuts.bagsOfAll();
            case 3: return evening.crowds.manyOfAll();
            case 4: return evening.price;
            case 5: return evening.cold;
            case 6: return tape.length;
            case 7: return evening.z;
            case 8: return evening.spotsHolding();
            default: return finding(BEYOND);
        }
    }

    public int status(int which) {
        if (!within(which, -1, SIZE)) {
            return finding(BEYOND);
        }
        if (which >= 0) {
            return findings[which];
        }
        int all = 0;
        for (int i = 0; i < FINDINGS; i++) {
            all += findings[i];
        }
        return all;
    }

    // ---- what the calls share

    private int finding(int which) {
        findings[which]++;
        return LOW - which;
    }

    private static boolean within(int v, int least, int most) {
        return v >= least && v <= most;
    }

    private boolean isBatch(int batch) {
        return batch >= 0 && batch < evening.nuts.count;
    }

    private boolean isCrowd(int crowd) {
        return crowd >= 0 && crowd < evening.crowds.count;
    }

    private static boolean isCorner(int corner) {
        return within(corner, 0, LAST_CORNER);
    }

    private static boolean isSpot(int spot) {
        return within(spot, 0, SPOTS - 1);
    }

    private static boolean isPlan(int n) {
        return within(n, 1, LONGEST_PLAN);
    }

    private boolean isTooLate(int n) {
        return evening.minute + n > LAST_MINUTE;
    }

    private static int mostOfRule(int what) {
        switch (what) {
            case HEAT: return MOST_HEAT;
            case PRICE: return MOST_PRICE;
            default: return MOST_COLD;
        }
    }

    private int exchange(int[] row, int i, int v, int most) {
        if (!within(v, 0, most)) {
            return finding(BEYOND);
        }
        int was = row[i];
        row[i] = v;
        return was;
    }

    /** Behind how many minutes of the trial, n at most, a batch is READY first; -1 if it is not. */
    private int minutesToReady(int batch, int n) {
        for (int i = 0; i < n; i++) {
            if (trial.nuts.isReady(batch)) {
                return i;
            }
            trial.pass(1);
        }
        return trial.nuts.isReady(batch) ? n : -1;
    }

    /** Whether a batch, put into the PAN of the waiting evening, is READY first just at a MINUTE. */
    private boolean isReadyJustAt(int batch, int minute) {
        int later = minute - waiting.minute;
        if (!within(later, 0, FARTHEST)) {
            return false;
        }
        trial.become(waiting);
        trial.nuts.lay(batch, PAN);
        return minutesToReady(batch, later) == later;
    }

    /** All COIN since now, if a batch of the waiting evening goes to the HEAP and n minutes follow. */
    private int coinTakenOff(int batch, int n) {
        trial.become(waiting);
        if (n > 0 && !trial.nuts.isGone(batch)) {
            trial.nuts.lay(batch, HEAP);
        }
        trial.pass(n);
        return trial.coin - evening.coin;
    }

    /** COIN of n minutes, if the cart of the waiting evening sets out for a corner, unless it walks. */
    private int coinFromCorner(int corner, int n) {
        trial.become(waiting);
        if (trial.walks == 0) {
            trial.setOut(corner);
        }
        return trial.pass(n);
    }

    private int coinWithout(int crowd, int n) {
        trial.become(evening);
        trial.crowds.many[crowd] = 0;
        return trial.pass(n);
    }

    /** Of the numbers that are offered, the first that is worth most; -1 if there is none. */
    private static final class Choice {
        int best = -1;
        private int most = 0;

        void clear() {
            best = -1;
        }

        void offer(int number, int worth) {
            if (best < 0 || worth > most) {
                best = number;
                most = worth;
            }
        }
    }

    /** What the kinds of nuts have of their own, and what they have as the kind above them. */
    private static final class Kinds {
        private static final int NUT_READY = 100;
        private static final int LARGE_READY = NUT_READY + 30;
        private static final int SMALL_READY = NUT_READY - 20;
        private static final int SWEET_READY = LARGE_READY + 10;
        private static final int NUT_BURNS_BEHIND = 40;
        private static final int SMALL_BURNS_BEHIND = 25;
        private static final int BURSTING_ROAST = 60;
        private static final int BURSTING_HEAT = 8;
        private static final int DEPTH = 3;

        static int above(int kind) {
            switch (kind) {
                case SWEET: return LARGE;
                case RAW: return SMALL;
                case OLD: return WORMED;
                default: return NUT;
            }
        }

        static boolean isUnder(int kind, int top) {
            int at = kind;
            for (int i = 0; i < DEPTH; i++) {
                if (at == top) {
                    return true;
                }
                at = above(at);
            }
            return false;
        }

        static int heatsOf(int kind, int h) {
            switch (kind) {
                case LARGE:
                case SWEET: return Math.max(0, h - 1);
                case SMALL:
                case RAW: return h > 0 ? h + 1 : h;
                case OLD: return h / 2;
                default: return h;
            }
        }

        static int readyFrom(int kind) {
            switch (kind) {
                case LARGE: return LARGE_READY;
                case SWEET: return SWEET_READY;
                case SMALL:
                case RAW: return SMALL_READY;
                default: return NUT_READY;
            }
        }

        static int burntFrom(int kind) {
            switch (kind) {
                case LARGE: return LARGE_READY + NUT_BURNS_BEHIND;
                case SWEET: return SWEET_READY + NUT_BURNS_BEHIND;
                case SMALL:
                case RAW: return SMALL_READY + SMALL_BURNS_BEHIND;
                default: return NUT_READY + NUT_BURNS_BEHIND;
            }
        }

        static boolean bursts(int kind, int roast, int heat) {
            return kind == RAW && roast >= BURSTING_ROAST && heat >= BURSTING_HEAT;
        }

        static int worthOf(int kind, int price) {
            switch (kind) {
                case SWEET: return price + 2;
                case WORMED: return Math.max(0, price - 2);
                case OLD: return Math.max(0, price - 2) / 2;
                default: return price;
            }
        }
    }

    /** The batches, as rows by their numbers. */
    private static final class Nuts {
        private static final int PAN_HOLDS = 2;
        private static final int RIM_HOLDS = 4;

        final int[] kind = new int[MOST_BATCHES];
        final int[] bags = new int[MOST_BATCHES];
        final int[] roast = new int[MOST_BATCHES];
        final int[] age = new int[MOST_BATCHES];
        final int[] place = new int[MOST_BATCHES];
        int count = 0;

        void become(Nuts other) {
            count = other.count;
            System.arraycopy(other.kind, 0, kind, 0, MOST_BATCHES);
            System.arraycopy(other.bags, 0, bags, 0, MOST_BATCHES);
            System.arraycopy(other.roast, 0, roast, 0, MOST_BATCHES);
            System.arraycopy(other.age, 0, age, 0, MOST_BATCHES);
            System.arraycopy(other.place, 0, place, 0, MOST_BATCHES);
        }

        boolean isFull() {
            return count >= MOST_BATCHES;
        }

        int add(int newKind) {
            int batch = count;
            kind[batch] = newKind;
            bags[batch] = MOST_BAGS;
            roast[batch] = 0;
            age[batch] = 0;
            place[batch] = SACK;
            count++;
            return batch;
        }

        boolean isGone(int batch) {
            return place[batch] == GONE;
        }

        boolean isOverFire(int batch) {
            return place[batch] == PAN || place[batch] == RIM;
        }

        /** One that is GONE is never READY, whatever its ROAST. */
        boolean isReady(int batch) {
            return place[batch] != GONE && roast[batch] >= Kinds.readyFrom(kind[batch]);
        }

        boolean isBurnt(int batch) {
            return roast[batch] >= Kinds.burntFrom(kind[batch]);
        }

        boolean hasRoom(int at) {
            if (at != PAN && at != RIM) {
                return true;
            }
            int there = Integer.bitCount(setAt(at));
            return there < (at == PAN ? PAN_HOLDS : RIM_HOLDS);
        }

        /** Lays a batch somewhere; tells how many bags are wasted by it. */
        int lay(int batch, int at) {
            place[batch] = at;
            if (at == HEAP) {
                age[batch] = 0;
            }
            if (at != GONE) {
                return 0;
            }
            int waste = bags[batch];
            bags[batch] = 0;
            return waste;
        }

        /** One minute over the fire; tells how many bags are wasted by bursting. */
        int roastAll(int heat) {
            int waste = 0;
            for (int i = 0; i < count; i++) {
                if (place[i] == PAN) {
                    roastBy(i, Kinds.heatsOf(kind[i], heat));
                    if (Kinds.bursts(kind[i], roast[i], heat)) {
                        waste += lay(i, GONE);
                    }
                } else if (place[i] == RIM) {
                    roastBy(i, Kinds.heatsOf(kind[i], heat / 2));
                }
            }
            return waste;
        }

        private void roastBy(int batch, int more) {
            roast[batch] = Math.min(MOST_ROAST, roast[batch] + more);
        }

        void ageHeap() {
            for (int i = 0; i < count; i++) {
                if (place[i] == HEAP) {
                    age[i]++;
                }
            }
        }

        /** The batch to sell from whose age is least, within two ages; -1 if there is none. */
        int youngest(int fromAge, int toAge) {
            int best = -1;
            for (int i = 0; i < count; i++) {
                boolean isSold = place[i] == HEAP && bags[i] > 0
                        && age[i] >= fromAge && age[i] <= toAge
                        && roast[i] >= Kinds.readyFrom(kind[i])
                        && roast[i] < Kinds.burntFrom(kind[i]);
                if (isSold && (best < 0 || age[i] < age[best])) {
                    best = i;
                }
            }
            return best;
        }

        int setAt(int at) {
            int set = 0;
            for (int i = 0; i < count; i++) {
                if (place[i] == at) {
                    set |= 1 << i;
                }
            }
            return set;
        }

        int setDoneOverFire() {
            int set = 0;
            for (int i = 0; i < count; i++) {
                if (isOverFire(i) && isReady(i) && !isBurnt(i)) {
                    set |= 1 << i;
                }
            }
            return set;
        }

        int bagsNotGone() {
            int sum = 0;
            for (int i = 0; i < count; i++) {
                if (!isGone(i)) {
                    sum += bags[i];
                }
            }
            return sum;
        }

        int bagsOfAll() {
            int sum = 0;
            for (int i = 0; i < count; i++) {
                sum += bags[i];
            }
            return sum;
        }
    }

    /** The crowds, as rows by their numbers. */
    private static final class Crowds {
        final int[] corner = new int[MOST_CROWDS];
        final int[] minute = new int[MOST_CROWDS];
        final int[] many = new int[MOST_CROWDS];
        int count = 0;

        void become(Crowds other) {
            count = other.count;
            System.arraycopy(other.corner, 0, corner, 0, MOST_CROWDS);
            System.arraycopy(other.minute, 0, minute, 0, MOST_CROWDS);
            System.arraycopy(other.many, 0, many, 0, MOST_CROWDS);
        }

        boolean isFull() {
            return count >= MOST_CROWDS;
        }

        int add(int newCorner, int newMinute, int newMany) {
            int crowd = count;
            corner[crowd] = newCorner;
            minute[crowd] = newMinute;
            many[crowd] = newMany;
            count++;
            return crowd;
        }

        int manyOfAll() {
            int sum = 0;
            for (int i = 0; i < count; i++) {
                sum += many[i];
            }
            return sum;
        }
    }

    /** All that an image keeps, and how it goes on minute by minute. */
    private static final class Evening {
        private static final int WARMTH = 3;
        private static final int WALK_MINUTES = 3;
        private static final int COOLING = 5;

        final Nuts nuts = new Nuts();
        final Crowds crowds = new Crowds();
        // Shovels put on at a minute warm 6 minutes later: 7 places by the rest of the minute do.
        final int[] due = new int[SHOVEL_LAG];
        final int[] spots = new int[SPOTS];
        int heat = 5;
        int price = 4;
        int cold = 5;
        int minute = 0;
        int coin = 0;
        int corner = 0;
        int walks = 0;
        int sold = 0;
        int wasted = 0;
        int lost = 0;
        int z = 1;

        Evening() {
            for (int i = 0; i < SPOTS; i++) {
                spots[i] = -1;
            }
        }

        void become(Evening other) {
            nuts.become(other.nuts);
            crowds.become(other.crowds);
            System.arraycopy(other.due, 0, due, 0, SHOVEL_LAG);
            System.arraycopy(other.spots, 0, spots, 0, SPOTS);
            heat = other.heat;
            price = other.price;
            cold = other.cold;
            minute = other.minute;
            coin = other.coin;
            corner = other.corner;
            walks = other.walks;
            sold = other.sold;
            wasted = other.wasted;
            lost = other.lost;
            z = other.z;
        }

        int ruled(int what) {
            switch (what) {
                case HEAT: return heat;
                case PRICE: return price;
                default: return cold;
            }
        }

        void setRule(int what, int v) {
            switch (what) {
                case HEAT:
                    heat = v;
                    break;
                case PRICE:
                    price = v;
                    break;
                default:
                    cold = v;
                    break;
            }
        }

        void addShovels(int n) {
            due[(minute + SHOVEL_LAG - 1) % SHOVEL_LAG] += n;
        }

        int shovelsDue() {
            int sum = 0;
            for (int i = 0; i < SHOVEL_LAG; i++) {
                sum += due[i];
            }
            return sum;
        }

        void setOut(int to) {
            walks = Math.abs(to - corner) * WALK_MINUTES;
            corner = to;
        }

        int coming(int crowd) {
            int fromCold = crowds.many[crowd] * (cold + 1) / 11;
            return fromCold - fromCold * price / 100;
        }

        int draw() {
            z = z * 1103515245 + 12345;
            return z >>> 8;
        }

        int spotsHolding() {
            int sum = 0;
            for (int i = 0; i < SPOTS; i++) {
                if (spots[i] >= 0) {
                    sum++;
                }
            }
            return sum;
        }

        /** Lets n minutes go; tells the COIN had in them. */
        int pass(int n) {
            int before = coin;
            for (int i = 0; i < n; i++) {
                warm();
                wasted += nuts.roastAll(heat);
                nuts.ageHeap();
                if (walks > 0) {
                    walks--;
                } else {
                    serve();
                }
                minute++;
            }
            return coin - before;
        }

        private void warm() {
            int slot = minute % SHOVEL_LAG;
            heat = Math.min(MOST_HEAT, heat + WARMTH * due[slot]);
            due[slot] = 0;
            if (minute % COOLING == COOLING - 1) {
                heat = Math.max(0, heat - 1);
            }
        }

        private void serve() {
            for (int i = 0; i < crowds.count; i++) {
                if (crowds.corner[i] == corner && crowds.minute[i] == minute) {
                    int rest = sell(coming(i), 0, GOOD_AGE, 1);
                    lost += sell(rest, GOOD_AGE + 1, COOL_AGE, 2);
                }
            }
        }

        /** Sells a bag each at a part of WORTH, from batches within two ages; tells who got none. */
        private int sell(int people, int fromAge, int toAge, int part) {
            int rest = people;
            // Each round empties a batch or serves all that are left.
            for (int round = 0; round < MOST_BATCHES && rest > 0; round++) {
                int batch = nuts.youngest(fromAge, toAge);
                if (batch < 0) {
                    return rest;
                }
                int bags = Math.min(rest, nuts.bags[batch]);
                int worth = Kinds.worthOf(nuts.kind[batch], price);
                nuts.bags[batch] -= bags;
                coin += bags * (part == 2 ? worth / 2 : worth);
                sold += bags;
                rest -= bags;
            }
            return rest;
        }
    }

    /** The tape, and the token of it that is read. */
    private static final class Tape {
        private static final int LONGEST = 120;
        private static final int END = 0;
        private static final int WORD = 1;
        private static final int NUMBER = 2;
        private static final int SIGN = 3;
        private static final int NO_TOKEN = 4;
        private static final int TOO_MUCH = 1000;

        final int[] bytes = new int[LONGEST];
        int length = 0;
        int start = 0;
        int behind = 0;
        int type = END;
        int value = 0;

        boolean hasRoom(int n) {
            return length + n <= LONGEST;
        }

        void append(int number, int n) {
            for (int i = n - 1; i >= 0; i--) {
                bytes[length] = (number >> (8 * i)) & 255;
                length++;
            }
        }

        void rewind() {
            behind = 0;
            step();
        }

        /** Goes on to the next token. */
        void step() {
            while (behind < length && bytes[behind] == ' ') {
                behind++;
            }
            start = behind;
            if (start >= length) {
                type = END;
            } else if (isLetter(bytes[start])) {
                readWord();
            } else if (isDigit(bytes[start])) {
                readNumber();
            } else {
                type = bytes[start] == ';' ? SIGN : NO_TOKEN;
                behind++;
            }
        }

        private void readWord() {
            type = WORD;
            while (behind < length && isLetter(bytes[behind])) {
                behind++;
            }
        }

        private void readNumber() {
            type = NUMBER;
            value = 0;
            while (behind < length && isDigit(bytes[behind])) {
                value = Math.min(TOO_MUCH, value * 10 + bytes[behind] - '0');
                behind++;
            }
        }

        private static boolean isLetter(int b) {
            return b >= 'a' && b <= 'z';
        }

        private static boolean isDigit(int b) {
            return b >= '0' && b <= '9';
        }

        boolean isWord(String word) {
            int n = word.length();
            if (type != WORD || behind - start != n) {
                return false;
            }
            for (int i = 0; i < n; i++) {
                if (bytes[start + i] != word.charAt(i)) {
                    return false;
                }
            }
            return true;
        }
    }

    /** Reads a text from the tape onto an evening, token by token, up to the first that can't stand. */
    private static final class TextReader {
        private final Tape tape;
        private final Evening evening;

        TextReader(Tape tape, Evening evening) {
            this.tape = tape;
            this.evening = evening;
        }

        /** How many items were read, or -1 less the place of the fault. */
        int readText() {
            tape.rewind();
            for (int items = 1; items <= Tape.LONGEST; items++) {
                if (!readItem()) {
                    break;
                }
                if (tape.type == Tape.END) {
                    return items;
                }
                if (tape.type != Tape.SIGN) {
                    break;
                }
                tape.step();
            }
            return -1 - tape.start;
        }

        private boolean readItem() {
            if (tape.isWord("crowd")) {
                return readCrowd();
            }
            if (tape.isWord("heat")) {
                return readRule(HEAT);
            }
            if (tape.isWord("price")) {
                return readRule(PRICE);
            }
            if (tape.isWord("cold")) {
                return readRule(COLD);
            }
            return readBatch();
        }

        private boolean readBatch() {
            int kind = kindTold();
            if (kind < 0 || evening.nuts.isFull()) {
                return false;
            }
            int batch = evening.nuts.add(kind);
            tape.step();
            if (tape.isWord("roast")) {
                int roast = readNumberBehind(MOST_ROAST);
                if (roast < 0) {
                    return false;
                }
                evening.nuts.roast[batch] = roast;
            }
            int place = placeTold();
            if (place == SACK) {
                return true;
            }
            if (!evening.nuts.hasRoom(place)) {
                return false;
            }
            evening.nuts.lay(batch, place);
            tape.step();
            return true;
        }

        private boolean readCrowd() {
            if (evening.crowds.isFull()) {
                return false;
            }
            int many = readNumberBehind(MOST_MANY);
            if (many < 0 || !tape.isWord("at")) {
                return false;
            }
            int corner = readNumberBehind(LAST_CORNER);
            if (corner < 0 || !tape.isWord("minute")) {
                return false;
            }
            int minute = readNumberBehind(LAST_MINUTE);
            if (minute < 0) {
                return false;
            }
            evening.crowds.add(corner, minute, many);
            return true;
        }

        private boolean readRule(int what) {
            int v = readNumberBehind(mostOfRule(what));
            if (v < 0) {
                return false;
            }
            evening.setRule(what, v);
            return true;
        }

        /** The number behind this word, the word and it being read then; -1 if none can stand there. */
        private int readNumberBehind(int most) {
            tape.step();
            if (tape.type != Tape.NUMBER || tape.value > most) {
                return -1;
            }
            int number = tape.value;
            tape.step();
            return number;
        }

        private int kindTold() {
            if (tape.isWord("nut")) {
                return NUT;
            }
            if (tape.isWord("large")) {
                return LARGE;
            }
            if (tape.isWord("small")) {
                return SMALL;
            }
            if (tape.isWord("sweet")) {
                return SWEET;
            }
            if (tape.isWord("raw")) {
                return RAW;
            }
            if (tape.isWord("wormed")) {
                return WORMED;
            }
            return tape.isWord("old") ? OLD : -1;
        }

        private int placeTold() {
            if (tape.isWord("pan")) {
                return PAN;
            }
            if (tape.isWord("rim")) {
                return RIM;
            }
            return tape.isWord("heap") ? HEAP : SACK;
        }
    }

    /** The sheets: rows of numbers of 8, 16 or 32 bits, all in one row; of 0 bits they are MISSING. */
    private static final class Sheets {
        private static final int COUNT = 4;
        private static final int LONGEST = 40;

        final int[] bits = new int[COUNT];
        final int[] size = new int[COUNT];
        private final int[] numbers = new int[COUNT * LONGEST];

        boolean isSheet(int s) {
            return s >= 0 && s < COUNT;
        }

        boolean isMissing(int s) {
            return bits[s] == 0;
        }

        void lay(int s, int newBits, int n) {
            bits[s] = newBits;
            size[s] = n;
            for (int i = 0; i < n; i++) {
                numbers[s * LONGEST + i] = 0;
            }
        }

        boolean hasNumbers(int s, int from, int n) {
            return from >= 0 && n >= 0 && n <= size[s] && from <= size[s] - n;
        }

        int numberAt(int s, int i) {
            return numbers[s * LONGEST + i];
        }

        void setNumber(int s, int i, int v) {
            int unused = 32 - bits[s];
            numbers[s * LONGEST + i] = v << unused >> unused;
        }

        void move(int s, int from, int t, int to, int n) {
            System.arraycopy(numbers, s * LONGEST + from, numbers, t * LONGEST + to, n);
        }
    }
}
