/** Every refused call of promises 2 to 34: its code, which code comes first, and that nothing is changed by it. */
public final class RefusedTest {
    private static final Check CHECK = new Check("refused");
    private static final Refusals REFUSALS = new Refusals(CHECK);
    private static final int[] NO_TRANSACTIONS = outside(0, 3);
    private static final int[] NO_INDEXES = outside(0, 1);
    private static final int[] NO_ROWS = outside(0, 47);
    private static final int[] NO_NUMBERS = outside(0, 99);
    private static final Scene.Way BUSY = Scene::busy;

    /** A call of one number that may be wrong. */
    private interface CallWith {
        int on(LateIndex x, int v);
    }

    public static void main(String[] args) {
        begin();
        put();
        erase();
        commitAndRoll();
        see();
        feed();
        build();
        buildFaults();
        work();
        takeUpAndGiveUp();
        terms();
        indexEntryLogged();
        aheadAndSame();
        readsAndBy();
        query();
        findAndFound();
        plan();
        farAndAlike();
        units();
        back();
        CHECK.close();
    }

    private static int[] outside(int least, int greatest) {
        return new int[] {least - 1, greatest + 1, Integer.MIN_VALUE, Integer.MAX_VALUE};
    }

    private static void refused(String call, int code, Scene.Call on) {
        REFUSALS.refused(call, code, BUSY, on);
    }

    private static void refusedEach(String call, int code, int[] numbers, CallWith on) {
        for (int v : numbers) {
            REFUSALS.refused(call.replace("_", "" + v), code, BUSY, x -> on.on(x, v));
        }
    }

    private static void refusedIn(String call, int code, int state, Scene.Call on) {
        REFUSALS.refused(call + " in state " + state, code, Scene.inState(1, state), on);
    }

    private static void begin() {
        CHECK.of("2 begin: -2");
        refusedEach("begin(_)", -2, NO_TRANSACTIONS, (x, t) -> x.begin(t));
        CHECK.of("2 begin: -5: it is open");
        for (int k = 0; k < 3; k++) {
            int t = k;
            refused("begin(" + t + ")", -5, x -> x.begin(t));
        }
    }

    private static void put() {
        CHECK.of("3 put: -2: the TRANSACTION");
        refusedEach("put(_, 0, ..)", -2, NO_TRANSACTIONS, (x, t) -> x.put(t, 0, 1, 1, 1));
        CHECK.of("3 put: -2: the ROW");
        refusedEach("put(1, _, ..)", -2, NO_ROWS, (x, row) -> x.put(1, row, 1, 1, 1));
        CHECK.of("3 put: -3: a, b, c");
        refusedEach("put(1, 0, _, 0, 0)", -3, NO_NUMBERS, (x, v) -> x.put(1, 0, v, 0, 0));
        refusedEach("put(1, 0, 0, _, 0)", -3, NO_NUMBERS, (x, v) -> x.put(1, 0, 0, v, 0));
        refusedEach("put(1, 0, 0, 0, _)", -3, NO_NUMBERS, (x, v) -> x.put(1, 0, 0, 0, v));
        CHECK.of("3 put: -5: it isn't open");
        refused("put(3, 0, 1, 1, 1)", -5, x -> x.put(3, 0, 1, 1, 1));
        CHECK.of("3 put: -4: there are 8 (others)");
        refused("put(0, 18, 1, 1, 1)", -4, x -> x.put(0, 18, 1, 1, 1));
        CHECK.of("3 put: of several that which the call tells first");
        refused("-2 ahead of -3", -2, x -> x.put(1, 48, 100, 0, 0));
        refused("-2 of the TRANSACTION ahead of -3", -2, x -> x.put(4, 0, 0, 100, 0));
        refused("-2 ahead of -5", -2, x -> x.put(3, -1, 0, 0, 0));
        refused("-2 ahead of -4", -2, x -> x.put(0, 48, 0, 0, 0));
        refused("-3 ahead of -5", -3, x -> x.put(3, 0, 0, 0, -1));
        refused("-3 ahead of -4", -3, x -> x.put(0, 18, 0, -1, 0));
    }

    private static void erase() {
        CHECK.of("4 erase: -2");
        refusedEach("erase(_, 0)", -2, NO_TRANSACTIONS, (x, t) -> x.erase(t, 0));
        refusedEach("erase(1, _)", -2, NO_ROWS, (x, row) -> x.erase(1, row));
        CHECK.of("4 erase: -5: it isn't open");
        refused("erase(3, 0)", -5, x -> x.erase(3, 0));
        CHECK.of("4 erase: -4: there are 8 (others)");
        refused("of a ROW that is there", -4, x -> x.erase(0, 0));
        refused("of a ROW that isn't there", -4, x -> x.erase(0, 18));
        CHECK.of("4 erase: of several that which the call tells first");
        refused("-2 ahead of -5", -2, x -> x.erase(3, 48));
        refused("-2 ahead of -4", -2, x -> x.erase(0, 48));
    }

    private static void commitAndRoll() {
        CHECK.of("5 commit: -2");
        refusedEach("commit(_)", -2, NO_TRANSACTIONS, (x, t) -> x.commit(t));
        CHECK.of("5 commit: -5: it isn't open");
        refused("commit(3)", -5, x -> x.commit(3));
        CHECK.of("7 roll: -2");
        refusedEach("roll(_)", -2, NO_TRANSACTIONS, (x, t) -> x.roll(t));
        CHECK.of("7 roll: -5: it isn't open");
        refused("roll(3)", -5, x -> x.roll(3));
    }

    private static void see() {
        CHECK.of("8 see: -2");
        refusedEach("see(_, 0, 0)", -2, outside(-1, 3), (x, t) -> x.see(t, 0, 0));
        refusedEach("see(-1, _, 0)", -2, NO_ROWS, (x, row) -> x.see(-1, row, 0));
        CHECK.of("8 see: -2: also what");
        refusedEach("see(-1, 0, _)", -2, outside(0, 3), (x, what) -> x.see(-1, 0, what));
        CHECK.of("8 see: -5: it isn't open");
        refused("see(3, 0, 0)", -5, x -> x.see(3, 0, 0));
        CHECK.of("8 see: of several that which the call tells first, all ahead of NONE");
        refused("-2 of the ROW ahead of -5", -2, x -> x.see(3, 48, 0));
        refused("-2 of what ahead of -5", -2, x -> x.see(3, 0, 4));
        refused("-2 ahead of NONE", -2, x -> x.see(-1, 5, 4));
        refused("-5 ahead of NONE", -5, x -> x.see(3, 5, 1));
    }

    private static void feed() {
        CHECK.of("10 feed: -4: it would have more than 100");
        REFUSALS.refused("a sixth", -4, x -> {
            Scene.busy(x);
            Check.tape(x, " ".repeat(80));
        }, x -> x.feed(1, 2, 3, 4, 5));
    }

    private static void build() {
        CHECK.of("11 build: -2 (THE TAPE stays)");
        refusedEach("build(_, 18)", -2, NO_INDEXES, (x, i) -> x.build(i, 18));
        CHECK.of("11 build: -3: n is below 0, above what there is (THE TAPE stays)");
        Scene.Way idle = x -> {
            Scene.busy(x);
            x.giveUp(1);
        };
        for (int n : outside(0, 20)) {
            REFUSALS.refused("build(1, " + n + ")", -3, idle, x -> x.build(1, n));
        }
        REFUSALS.refused("one byte, where there is none", -3, Scene.inState(0, 4), x -> x.build(1, 1));
        CHECK.of("11 build: -5: its STATE isn't 0 (THE TAPE stays)");
        for (int state = 1; state <= 5; state++) {
            REFUSALS.refused("in state " + state, -5, Scene.then(Scene.inState(1, state), x -> Check.tape(x, "index c")), x -> x.build(1, 7));
        }
        CHECK.of("11 build: of several that which the call tells first");
        refused("-2 ahead of -3", -2, x -> x.build(2, 21));
        refused("-3 ahead of -5", -3, x -> x.build(0, 21));
        refused("-5 ahead of a FAULT", -5, x -> x.build(0, 18));
        refused("-5 ahead of a FAULT of no byte", -5, x -> x.build(0, 0));
    }

    private static void buildFaults() {
        CHECK.of("11 build: a FAULT (THE TAPE is empty then; nothing else changes)");
        Scene.Way idle = x -> {
            Scene.busy(x);
            x.query(18);
            x.giveUp(1);
        };
        REFUSALS.faulty("fault 1", -31, idle, "index a and", x -> x.build(1, 11));
        REFUSALS.faulty("fault 2", -32, idle, "index a where a=100", x -> x.build(1, 19));
        REFUSALS.faulty("fault 3", -33, idle, "index a desc, b,a", x -> x.build(1, 17));
        REFUSALS.faulty("of no byte", -31, idle, "index a", x -> x.build(1, 0));
        REFUSALS.faulty("behind a whole DEFINITION", -31, idle, "index a unique where b > 5 5", x -> x.build(1, 28));
    }

    private static void work() {
        CHECK.of("13 work: -2");
        refusedEach("work(_, 1)", -2, NO_INDEXES, (x, i) -> x.work(i, 1));
        CHECK.of("13 work: n UNITS (1 to 200): -3");
        refusedEach("work(1, _)", -3, outside(1, 200), (x, n) -> x.work(1, n));
        CHECK.of("13 work: -5: its STATE is 0, 4, 5");
        refusedIn("work(1, 1)", -5, 0, x -> x.work(1, 1));
        refusedIn("work(1, 1)", -5, 4, x -> x.work(1, 1));
        refusedIn("work(1, 1)", -5, 5, x -> x.work(1, 1));
        CHECK.of("13 work: of several that which the call tells first");
        refused("-2 ahead of -3", -2, x -> x.work(2, 0));
        refused("-3 ahead of -5", -3, x -> x.work(0, 201));
    }

    private static void takeUpAndGiveUp() {
        CHECK.of("14 takeUp: -2");
        refusedEach("takeUp(_)", -2, NO_INDEXES, (x, i) -> x.takeUp(i));
        CHECK.of("14 takeUp: -5: its STATE isn't 5");
        for (int state = 0; state < 5; state++) {
            refusedIn("takeUp(1)", -5, state, x -> x.takeUp(1));
        }
        CHECK.of("15 giveUp: -2");
        refusedEach("giveUp(_)", -2, NO_INDEXES, (x, i) -> x.giveUp(i));
        CHECK.of("15 giveUp: -5: it is 0");
        refusedIn("giveUp(1)", -5, 0, x -> x.giveUp(1));
        REFUSALS.refused("given up already", -5, Scene.then(BUSY, x -> x.giveUp(1)), x -> x.giveUp(1));
    }

    private static void terms() {
        CHECK.of("16 terms: -2");
        refusedEach("terms(_, 3)", -2, outside(0, 1), (x, what) -> x.terms(what, 3));
        CHECK.of("16 terms: SHORT 0 to 20: -3");
        refusedEach("terms(0, _)", -3, outside(0, 20), (x, v) -> x.terms(0, v));
        CHECK.of("16 terms: MOST 1 to 9: -3");
        refusedEach("terms(1, _)", -3, outside(1, 9), (x, v) -> x.terms(1, v));
        CHECK.of("16 terms: of several that which the call tells first");
        refused("-2 ahead of -3", -2, x -> x.terms(2, 100));
    }

    private static void indexEntryLogged() {
        CHECK.of("17 index: -2: there is none such, what");
        refusedEach("index(_, 0)", -2, NO_INDEXES, (x, i) -> x.index(i, 0));
        refusedEach("index(0, _)", -2, outside(0, 15), (x, what) -> x.index(0, what));
        CHECK.of("18 entry: -2: the INDEX, what");
        refusedEach("entry(_, 0, 0)", -2, NO_INDEXES, (x, i) -> x.entry(i, 0, 0));
        refusedEach("entry(0, 0, _)", -2, outside(0, 3), (x, what) -> x.entry(0, 0, what));
        CHECK.of("18 entry: -3: k is below 0");
        refusedEach("entry(0, _, 0)", -3, new int[] {-1, Integer.MIN_VALUE}, (x, k) -> x.entry(0, k, 0));
        CHECK.of("18 entry: -2 ahead of -3, both ahead of NONE");
        refused("-2 ahead of -3", -2, x -> x.entry(0, -1, 4));
        refused("-2 ahead of NONE", -2, x -> x.entry(0, 100, 4));
        refused("-3 ahead of NONE", -3, x -> x.entry(0, -1, 3));
        CHECK.of("19 logged: -2: the INDEX, which, what");
        refusedEach("logged(_, 0, 0, 0)", -2, NO_INDEXES, (x, i) -> x.logged(i, 0, 0, 0));
        refusedEach("logged(1, _, 0, 0)", -2, outside(0, 1), (x, which) -> x.logged(1, which, 0, 0));
        refusedEach("logged(1, 0, 0, _)", -2, outside(0, 4),
            (x, what) -> x.logged(1, 0, 0, what));
        CHECK.of("19 logged: -3: k is below 0");
        refusedEach("logged(1, 0, _, 0)", -3, new int[] {-1, Integer.MIN_VALUE}, (x, k) -> x.logged(1, 0, k, 0));
        refusedEach("logged(1, 1, _, 0)", -3, new int[] {-1, Integer.MIN_VALUE}, (x, k) -> x.logged(1, 1, k, 0));
        CHECK.of("19 logged: -2 ahead of -3, both ahead of NONE");
        refused("-2 of which ahead of -3", -2, x -> x.logged(1, 2, -1, 0));
        refused("-2 of what ahead of -3", -2, x -> x.logged(1, 0, -1, 5));
        refused("-2 ahead of NONE", -2, x -> x.logged(1, 0, 121, 5));
        refused("-3 ahead of NONE", -3, x -> x.logged(0, 0, -1, 4));
    }

    private static void aheadAndSame() {
        CHECK.of("20 ahead: -2; -3; -5: STATE isn't READY");
        refusedEach("ahead(_, ..)", -2, NO_INDEXES, (x, i) -> x.ahead(i, 0, 0, 0));
        refusedEach("ahead(0, _, 0, 0)", -3, NO_NUMBERS, (x, v) -> x.ahead(0, v, 0, 0));
        refusedEach("ahead(0, 0, _, 0)", -3, NO_NUMBERS, (x, v) -> x.ahead(0, 0, v, 0));
        refusedEach("ahead(0, 0, 0, _)", -3, NO_NUMBERS, (x, v) -> x.ahead(0, 0, 0, v));
        CHECK.of("21 same: likewise");
        refusedEach("same(_, ..)", -2, NO_INDEXES, (x, i) -> x.same(i, 0, 0, 0));
        refusedEach("same(0, _, 0, 0)", -3, NO_NUMBERS, (x, v) -> x.same(0, v, 0, 0));
        refusedEach("same(0, 0, _, 0)", -3, NO_NUMBERS, (x, v) -> x.same(0, 0, v, 0));
        refusedEach("same(0, 0, 0, _)", -3, NO_NUMBERS, (x, v) -> x.same(0, 0, 0, v));
        for (int state : new int[] {0, 1, 2, 3, 5}) {
            CHECK.of("20 ahead: -5: STATE " + state);
            refusedIn("ahead(1, 1, 2, 3)", -5, state, x -> x.ahead(1, 1, 2, 3));
            CHECK.of("21 same: -5: STATE " + state);
            refusedIn("same(1, 1, 2, 3)", -5, state, x -> x.same(1, 1, 2, 3));
        }
        CHECK.of("20 ahead, 21 same: of several that which the call tells first");
        refused("-2 ahead of -3", -2, x -> x.ahead(2, 100, 0, 0));
        refused("-3 ahead of -5", -3, x -> x.ahead(1, 0, 0, 100));
        refused("-2 ahead of -3", -2, x -> x.same(-1, 0, 0, -1));
        refused("-3 ahead of -5", -3, x -> x.same(1, 0, -1, 0));
    }

    private static void readsAndBy() {
        CHECK.of("22 reads: COLUMN (0 to 2): -2");
        refusedEach("reads(_, 0)", -2, outside(0, 2), (x, column) -> x.reads(column, 0));
        CHECK.of("22 reads: -3: v");
        refusedEach("reads(0, _)", -3, NO_NUMBERS, (x, v) -> x.reads(0, v));
        refusedEach("reads(2, _)", -3, NO_NUMBERS, (x, v) -> x.reads(2, v));
        CHECK.of("22 reads: of several that which the call tells first");
        refused("-2 ahead of -3", -2, x -> x.reads(3, 100));
        CHECK.of("23 by: -2");
        refusedEach("by(_)", -2, outside(0, 2), (x, column) -> x.by(column));
    }

    private static void query() {
        CHECK.of("24 query: -3: n is below 0, above what there is (THE TAPE stays)");
        refusedEach("query(_)", -3, outside(0, 20), (x, n) -> x.query(n));
        REFUSALS.refused("one byte, where there is none", -3, Scene.inState(0, 4), x -> x.query(1));
        CHECK.of("24 query: a FAULT (the elder QUERY stays)");
        Scene.Way bare = Scene.then(BUSY, x -> x.query(18));
        REFUSALS.faulty("fault 1", -31, bare, "find a = 4 order", x -> x.query(16));
        REFUSALS.faulty("fault 2", -32, bare, "find b = 4 and b<100", x -> x.query(20));
        REFUSALS.faulty("fault 3", -33, bare, "find c=0 order b,b", x -> x.query(18));
        REFUSALS.faulty("fault 4", -34, bare, "find a=1and a=1and a=1and a=1and b=1", x -> x.query(36));
        REFUSALS.faulty("of no byte", -31, bare, "find", x -> x.query(0));
        REFUSALS.faulty("behind a whole QUERY", -31, bare, "find a = 4 order c desc x", x -> x.query(25));
        CHECK.of("24 query: a FAULT, where there is no elder QUERY");
        LateIndex x = Scene.after(Scene.inState(0, 4));
        CHECK.due("query(8)", -31, Check.query(x, "find a=1 x"));
        CHECK.due("still none", -5, x.find(-1));
    }

    private static void findAndFound() {
        int[] noViewers = outside(-1, 3);
        Scene.Way unasked = Scene.then(Scene.inState(1, 4), x -> x.begin(2));
        CHECK.of("25 find: -2");
        refusedEach("find(_)", -2, noViewers, (x, t) -> x.find(t));
        CHECK.of("25 find: -5: it isn't open");
        refused("find(3)", -5, x -> x.find(3));
        CHECK.of("25 find: -5: there is no QUERY");
        REFUSALS.refused("find(-1)", -5, unasked, x -> x.find(-1));
        REFUSALS.refused("find(2)", -5, unasked, x -> x.find(2));
        REFUSALS.refused("-2 ahead of -5", -2, unasked, x -> x.find(4));
        CHECK.of("26 found: -2");
        refusedEach("found(_, 0)", -2, noViewers, (x, t) -> x.found(t, 0));
        CHECK.of("26 found: -3: i is below 0");
        refusedEach("found(-1, _)", -3, new int[] {-1, Integer.MIN_VALUE}, (x, i) -> x.found(-1, i));
        CHECK.of("26 found: -5 likewise");
        refused("it isn't open", -5, x -> x.found(3, 0));
        REFUSALS.refused("no QUERY", -5, unasked, x -> x.found(-1, 0));
        REFUSALS.refused("no QUERY", -5, unasked, x -> x.found(2, 0));
        CHECK.of("26 found: of several that which the call tells first, all ahead of NONE");
        refused("-2 ahead of -3", -2, x -> x.found(4, -1));
        refused("-3 ahead of -5", -3, x -> x.found(3, -1));
        refused("-5 ahead of NONE", -5, x -> x.found(3, 100));
    }

    private static void plan() {
        CHECK.of("27 plan: -2");
        refusedEach("plan(_)", -2, outside(0, 4), (x, what) -> x.plan(what));
        CHECK.of("27 plan: -5: there is no QUERY");
        for (int k = 0; k < 5; k++) {
            int what = k;
            REFUSALS.refused("plan(" + k + ")", -5, Scene.inState(1, 4), x -> x.plan(what));
        }
        REFUSALS.refused("-2 ahead of -5", -2, Scene.inState(1, 4), x -> x.plan(5));
    }

    private static void farAndAlike() {
        CHECK.of("28 far: -2");
        refusedEach("far(_)", -2, NO_INDEXES, (x, i) -> x.far(i));
        CHECK.of("28 far: -5: STATE 0");
        refusedIn("far(1)", -5, 0, x -> x.far(1));
        CHECK.of("29 alike: -2: the INDEX");
        refusedEach("alike(_, -1, 0)", -2, NO_INDEXES, (x, i) -> x.alike(i, -1, 0));
        CHECK.of("29 alike: -3: k is below NONE");
        refusedEach("alike(0, _, 0)", -3, new int[] {-2, Integer.MIN_VALUE}, (x, k) -> x.alike(0, k, 0));
        CHECK.of("29 alike: -3: j is below 0");
        refusedEach("alike(0, 0, _)", -3, new int[] {-1, Integer.MIN_VALUE}, (x, j) -> x.alike(0, 0, j));
        refusedEach("alike(0, -1, _)", -3, new int[] {-1, Integer.MIN_VALUE}, (x, j) -> x.alike(0, -1, j));
        CHECK.of("29 alike: -5: STATE 0");
        refusedIn("alike(1, -1, 0)", -5, 0, x -> x.alike(1, -1, 0));
        refusedIn("alike(1, 0, 0)", -5, 0, x -> x.alike(1, 0, 0));
        CHECK.of("29 alike: of several that which the call tells first, all ahead of NONE");
        refused("-2 ahead of -3", -2, x -> x.alike(2, -2, -1));
        refusedIn("-3 ahead of -5", -3, 0, x -> x.alike(1, -2, 0));
        refusedIn("-5 ahead of NONE", -5, 0, x -> x.alike(1, 100, 100));
        refused("-3 ahead of NONE", -3, x -> x.alike(0, 100, -1));
    }

    private static void units() {
        CHECK.of("30 units: -2");
        refusedEach("units(_, 0)", -2, NO_INDEXES, (x, i) -> x.units(i, 0));
        CHECK.of("30 units: w (0 to 5): -3");
        refusedEach("units(1, _)", -3, outside(0, 5), (x, w) -> x.units(1, w));
        CHECK.of("30 units: -5: STATE isn't 1, 2, 3");
        refusedIn("units(1, 0)", -5, 0, x -> x.units(1, 0));
        refusedIn("units(1, 0)", -5, 4, x -> x.units(1, 0));
        refusedIn("units(1, 5)", -5, 5, x -> x.units(1, 5));
        CHECK.of("30 units: of several that which the call tells first");
        refused("-2 ahead of -3", -2, x -> x.units(2, 6));
        refused("-3 ahead of -5", -3, x -> x.units(0, 6));
    }

    private static void back() {
        CHECK.of("32 undo: n calls (1 to 8): -3: n");
        refusedEach("undo(_)", -3, outside(1, 8), (x, n) -> x.undo(n));
        CHECK.of("32 undo: -3: more than can be");
        REFUSALS.refused("six, five can be", -3, Scene.then(BUSY, x -> x.undo(3)), x -> x.undo(6));
        REFUSALS.refused("one, none can be", -3, Scene.then(BUSY, x -> x.undo(8)), x -> x.undo(1));
        REFUSALS.refused("one, on a new object", -3, x -> { }, x -> x.undo(1));
        CHECK.of("33 image: -2");
        refusedEach("image(_)", -2, outside(0, 1), (x, i) -> x.image(i));
        CHECK.of("34 restore: -2");
        refusedEach("restore(_)", -2, outside(0, 1), (x, i) -> x.restore(i));
        CHECK.of("34 restore: -6: none was made");
        REFUSALS.refused("restore(0)", -6, Scene.inState(0, 2), x -> x.restore(0));
        REFUSALS.refused("restore(1), 0 was made", -6, Scene.then(Scene.inState(0, 2), x -> x.image(0)), x -> x.restore(1));
        REFUSALS.refused("restore(0), 1 was made", -6, Scene.then(Scene.inState(0, 2), x -> x.image(1)), x -> x.restore(0));
    }
}
