import java.util.function.Supplier;

/** Edges of a promise, each tried on a scene of its own. */
final class Edge {
    interface Call {
        int on(ChestnutCorner x);
    }

    interface CallOf {
        int on(ChestnutCorner x, int v);
    }

    private final Due due;
    private final Supplier<ChestnutCorner> scene;

    Edge(Due due, Supplier<ChestnutCorner> scene) {
        this.due = due;
        this.scene = scene;
    }

    /** The call tells a finding, which is counted once and as what it is; nothing else changes. */
    void refused(String what, int finding, Call call) {
        ChestnutCorner x = scene.get();
        ChestnutCorner same = scene.get();
        due.is(what, call.on(x), finding);
        int[] status = Told.statusOf(same);
        status[0]++;
        status[1 + Due.BEYOND - finding]++;
        due.same(what + ": status(), from -1,", Told.statusOf(x), status);
        due.same(what + ": nothing changes,", Told.of(x), Told.of(same));
    }

    /** The call tells what is due; nothing changes at all. */
    void asks(String what, int want, Call call) {
        ChestnutCorner x = scene.get();
        ChestnutCorner same = scene.get();
        due.is(what, call.on(x), want);
        due.same(what + ": status(), from -1,", Told.statusOf(x), Told.statusOf(same));
        due.same(what + ": nothing changes,", Told.of(x), Told.of(same));
    }

    /** The call tells what is due, whatever it changes. */
    void tells(String what, int want, Call call) {
        due.is(what, call.on(scene.get()), want);
    }

    /** The call tells no finding. */
    void allowed(String what, Call call) {
        ChestnutCorner x = scene.get();
        int before = x.status(-1);
        int got = call.on(x);
        due.holds(what + " is allowed, not " + got, got >= -1000000);
        due.is(what + " counts as no finding", x.status(-1), before);
    }

    /** The least and the greatest value are allowed, the first ones beyond them are not. */
    void range(String what, int least, int most, CallOf call) {
        allowed(what + " at its least, " + least + ",", x -> call.on(x, least));
        allowed(what + " at its most, " + most + ",", x -> call.on(x, most));
        beyond(what, least, most, call);
    }

    /** The first values beyond the least and the greatest one, and the last ones that there are. */
    void beyond(String what, int least, int most, CallOf call) {
        for (int v : new int[] {least - 1, most + 1, Integer.MIN_VALUE, Integer.MAX_VALUE}) {
            refused(what + " " + v, Due.BEYOND, x -> call.on(x, v));
        }
    }
}
