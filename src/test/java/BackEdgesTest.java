/** The edges that promises 32 to 35 name, and the sentences on what can be UNDONE and on IMAGES that they rest on. */
public final class BackEdgesTest {
    private static final Check CHECK = new Check("back edges");

    public static void main(String[] args) {
        undoNumbers();
        undoLatestFirst();
        undoEight();
        undoAround();
        undoThenOn();
        undoesWrites();
        undoesCommits();
        undoesSweep();
        undoesIndexes();
        undoesGivingUp();
        alsoIfNothingChanges();
        notRefused();
        toldNothing();
        allBut();
        images();
        imageOfAll();
        imageOfItsOwn();
        nothingBehind();
        countRowsAndVersions();
        countTransactions();
        countWaits();
        countTape();
        countOthers();
        CHECK.close();
    }

    private static void due(String call, int want, int got) {
        CHECK.due(call, want, got);
    }

    /** So many calls that tell something, the k-th of which makes SHORT k. */
    private static LateIndex told(int many) {
        LateIndex x = new LateIndex();
        for (int k = 1; k <= many; k++) {
            x.terms(0, k);
        }
        return x;
    }

    /** SHORT behind so many of those calls. */
    private static int shortOf(int calls) {
        return calls == 0 ? 3 : calls;
    }

    private static void undoNumbers() {
        CHECK.of("32: n calls (1 to 8) are UNDONE: how many still can be: one, eight");
        CHECK.dueAll("undo, SHORT", "7, 7", told(8).undo(1), undone(8, 1));
        CHECK.dueAll("undo, SHORT", "0, 3", told(8).undo(8), undone(8, 8));
        CHECK.of("32: -3: more than can be: just as many can");
        for (int many = 1; many <= 8; many++) {
            CHECK.dueAll("undo, SHORT", "0, 3", told(many).undo(many), undone(many, many));
            CHECK.dueAll("one more, SHORT", "-3, " + many, told(many).undo(many + 1), undone(many, many + 1));
        }
        CHECK.of("32: -3: n");
        LateIndex x = told(8);
        CHECK.dueAll("undo", "-3, -3, -3, -3, -3", x.undo(0), x.undo(-1), x.undo(9), x.undo(Integer.MAX_VALUE),
            x.undo(Integer.MIN_VALUE));
        CHECK.dueAll("SHORT, can be", "8, 8", x.count(7), x.count(6));
        CHECK.of("32: none can be, of a new object");
        CHECK.dueAll("undo, count(6)", "-3, 0", new LateIndex().undo(1), new LateIndex().count(6));
    }

    private static int undone(int calls, int n) {
        LateIndex x = told(calls);
        x.undo(n);
        return x.count(7);
    }

    private static void undoLatestFirst() {
        CHECK.of("32, Terms: each as a whole, the latest first");
        LateIndex x = told(8);
        for (int k = 7; k >= 1; k--) {
            CHECK.dueAll("undo, SHORT, count(6)", k + ", " + k + ", " + k, x.undo(1), x.count(7), x.count(6));
        }
        CHECK.dueAll("the first of them", "0, 3, 0, -3", x.undo(1), x.count(7), x.count(6), x.undo(1));
        CHECK.of("32: n calls: two and three at once are as one by one");
        LateIndex y = told(8);
        CHECK.dueAll("undo, SHORT", "6, 6, 3, 3", y.undo(2), y.count(7), y.undo(3), y.count(7));
        CHECK.of("32: each as a whole: a work() of many UNITS, a COMMIT of eight WRITES");
        LateIndex z = Scene.after(Scene.inState(0, 0), w -> Check.build(w, 0, "index a"), w -> w.work(0, 200), w -> w.begin(0),
            w -> Scene.eightWrites(w, 0, 40), w -> w.commit(0));
        CHECK.dueAll("rows, seq, entries", "11, 2, 11", z.count(0), z.count(1), z.index(0, 1));
        CHECK.dueAll("undo(1): rows, seq, entries, writes", "7, 3, 1, 3, 8", z.undo(1), z.count(0), z.count(1), z.index(0, 1),
            z.count(10));
    }

    private static void undoEight() {
        CHECK.of("32, Terms: 8 at most (eldest are forgotten)");
        for (int many : new int[] {9, 10, 15, 16, 17}) {
            LateIndex x = told(many);
            CHECK.dueAll(many + " calls: can be, undo(8), SHORT, undo(1)", "8, 0, " + (many - 8) + ", -3", x.count(6), x.undo(8),
                x.count(7), x.undo(1));
        }
    }

    /** What is forgotten and what is undone passes the end of any room of eight at another place each time. */
    private static void undoAround() {
        CHECK.of("32, Terms: 8 at most: again and again, undone between");
        for (int first = 6; first <= 12; first++) {
            for (int back = 1; back <= 6; back++) {
                LateIndex x = told(first);
                int can = Math.min(8, first) - back;
                CHECK.dueAll("undo, SHORT", can + ", " + shortOf(first - back), x.undo(back), x.count(7));
                for (int k = 0; k < 5; k++) {
                    x.terms(1, 1 + k);
                }
                int now = Math.min(8, can + 5);
                CHECK.dueAll("can be, undo(5), SHORT, MOST", now + ", " + (now - 5) + ", " + shortOf(first - back) + ", 5", x.count(6),
                    x.undo(5), x.count(7), x.count(8));
                if (now > 5) {
                    CHECK.dueAll("all that can be", "0, " + shortOf(first - back - (now - 5)), x.undo(now - 5), x.count(7));
                }
                due("no more", -3, x.undo(1));
            }
        }
    }

    private static void undoThenOn() {
        CHECK.of("32: what was undone can't come again");
        LateIndex x = told(8);
        x.undo(5);
        x.terms(1, 9);
        CHECK.dueAll("count(6), SHORT, MOST", "4, 3, 9", x.count(6), x.count(7), x.count(8));
        CHECK.dueAll("undo(2), SHORT, MOST", "2, 2, 5", x.undo(2), x.count(7), x.count(8));
        CHECK.dueAll("undo(3)", "-3", x.undo(3));
    }

    private static void undoesWrites() {
        CHECK.of("32: UNDONE: begin()");
        LateIndex x = new LateIndex();
        x.begin(3);
        CHECK.dueAll("open, undo, open, snap", "8, 0, 0, -1", x.count(2), x.undo(1), x.count(2), x.count(23));
        CHECK.of("32: UNDONE: put(): one that was new, one that was there");
        x.begin(3);
        x.put(3, 47, 1, 1, 1);
        x.put(3, 47, 2, 2, 2);
        CHECK.dueAll("undo, a, writes", "2, 1, 1", x.undo(1), x.see(3, 47, 1), x.count(13));
        CHECK.dueAll("undo, there, writes", "1, 0, 0", x.undo(1), x.see(3, 47, 0), x.count(13));
        CHECK.of("32: UNDONE: erase()");
        x.put(3, 0, 5, 5, 5);
        x.erase(3, 0);
        CHECK.dueAll("undo, a", "2, 5", x.undo(1), x.see(3, 0, 1));
        CHECK.of("32: UNDONE: roll(): open again with all it wrote");
        x.erase(3, 1);
        x.roll(3);
        CHECK.dueAll("open, undo, open, writes, snap, a", "0, 3, 8, 2, 0, 5", x.count(2), x.undo(1), x.count(2), x.count(13),
            x.count(23), x.see(3, 0, 1));
        CHECK.of("32: UNDONE: the eighth put(): another may be the eighth");
        LateIndex y = Scene.after(z -> z.begin(0), z -> Scene.eightWrites(z, 0, 0));
        CHECK.dueAll("ninth, undo, another", "-4, 7, 8", y.put(0, 9, 1, 1, 1), y.undo(1), y.put(0, 9, 1, 1, 1));
    }

    private static void undoesCommits() {
        CHECK.of("32: UNDONE: commit() that was done: SEQ, VERSIONS, ROWS, open again");
        LateIndex x = Scene.after(y -> y.begin(1), y -> y.put(1, 5, 1, 2, 3), y -> y.erase(1, 6), y -> y.commit(1));
        CHECK.dueAll("rows, seq, versions, open", "1, 1, 50, 0", x.count(0), x.count(1), x.count(3), x.count(2));
        CHECK.dueAll("undo, rows, seq, versions, open, writes", "3, 0, 0, 48, 2, 2", x.undo(1), x.count(0), x.count(1), x.count(3),
            x.count(2), x.count(11));
        due("commit again", 1, x.commit(1));
        CHECK.of("32: UNDONE: commit() over by CONFLICT, by ALIKE: open again");
        LateIndex y = Scene.after(z -> z.begin(0), z -> z.put(0, 5, 1, 1, 1), z -> Check.commit(z, Check.row(5, 2, 2, 2)),
            z -> z.commit(0));
        CHECK.dueAll("why, undo, open, writes, why", "1, 5, 1, 1, 1", y.why(), y.undo(1), y.count(2), y.count(10), y.why());
        Check.ready(y, 0, "index a unique");
        CHECK.dueAll("alike, why, undo, open, a", "0, 3, 7, 9, 2", Check.commit(y, Check.row(6, 2, 1, 1)), y.why(), y.undo(1),
            y.count(2), y.see(3, 6, 1));
        CHECK.of("32: UNDONE: commit() with no WRITES: open again");
        LateIndex z = Scene.after(w -> w.begin(2), w -> w.commit(2));
        CHECK.dueAll("undo, open", "1, 4", z.undo(1), z.count(2));
        CHECK.of("32: UNDONE: commit(): what it put to the LOGS, what it did to ENTRIES");
        LateIndex v = Scene.after(Scene.inState(0, 4), Scene.inState(1, 2), w -> Check.commit(w, Check.row(0, 7, 7, 7)));
        CHECK.dueAll("first entry, later", "1, 2", v.entry(0, 0, 0), v.index(1, 4));
        v.undo(1);
        CHECK.dueAll("first entry, later, far", "0, 0, 0, 0", v.entry(0, 0, 0), v.index(1, 4), v.far(0), v.far(1));
    }

    private static void undoesSweep() {
        CHECK.of("32: UNDONE: sweep(): VERSIONS come again, that of SEQ 0, too");
        LateIndex x = Scene.after(Scene.versions(0, 7), y -> y.sweep());
        CHECK.dueAll("versions, undo, versions", "48, 7, 55", x.count(3), x.undo(1), x.count(3));
        due("full as ahead", 0, Check.commit(x, Check.row(0, 1, 1, 1)));
        due("why", 4, x.why());
        CHECK.of("32: UNDONE: sweep(): what is seen by one that is open again");
        LateIndex y = Scene.after(Scene.versions(47, 2), z -> z.sweep(), z -> z.begin(1), Scene.versions(47, 1), z -> z.roll(1),
            z -> z.sweep());
        CHECK.dueAll("versions, undo, versions, see", "48, 6, 49, 1, 0", y.count(3), y.undo(2), y.count(3), y.see(1, 47, 1),
            y.see(-1, 47, 1));
    }

    private static void undoesIndexes() {
        CHECK.of("32: UNDONE: build(): no INDEX; its ENDED BY as ahead of it");
        LateIndex x = Scene.after(Scene.inState(1, 2), y -> y.giveUp(1), y -> Check.build(y, 1, "index c"));
        CHECK.dueAll("ended by, undo, state, columns, ended by", "0, 7, 0, 0, 1", x.index(1, 15), x.undo(1), x.index(1, 0),
            x.index(1, 8), x.index(1, 15));
        CHECK.of("32: UNDONE: giveUp(): STATE, DEFINITION, LOGS, ENTRIES");
        CHECK.dueAll("undo, state, columns, entries, round, ended by", "6, 2, 2, 3, 1, 0", x.undo(1), x.index(1, 0), x.index(1, 8),
            x.index(1, 1), x.index(1, 5), x.index(1, 15));
        CHECK.of("32: UNDONE: work(): from STATE 2 to a scan");
        CHECK.dueAll("undo, state, next row, entries", "5, 1, 0, 0", x.undo(1), x.index(1, 0), x.index(1, 2), x.index(1, 1));
        CHECK.of("32: UNDONE: work(), giveUp(), build() of a scan: its NEXT ROW and its SNAP");
        LateIndex scan = Scene.after(Scene.versions(0, 2), z -> Check.build(z, 0, "index a"), z -> z.work(0, 5),
            z -> z.work(0, 7), z -> z.giveUp(0), Scene.versions(0, 1), z -> Check.build(z, 0, "index b"), z -> z.undo(5));
        CHECK.dueAll("next row, snap", "12, 2", scan.index(0, 2), scan.index(0, 6));
        CHECK.dueAll("undo, next row, snap, definition", "2, 5, 2, 0", scan.undo(1), scan.index(0, 2), scan.index(0, 6),
            scan.index(0, 9));
        CHECK.of("32: UNDONE: takeUp()");
        LateIndex y = Scene.after(Scene.inState(0, 5), z -> Check.commit(z, Check.row(0, 9, 9, 9)), z -> z.takeUp(0));
        CHECK.dueAll("now, undo, state, round, now, later", "2, 7, 5, 1, 0, 2", y.index(0, 3), y.undo(1), y.index(0, 0),
            y.index(0, 5), y.index(0, 3), y.index(0, 4));
        CHECK.of("32: UNDONE: terms(): SHORT, MOST");
        LateIndex z = Scene.after(w -> w.terms(0, 20), w -> w.terms(1, 1));
        CHECK.dueAll("undo, terms", "1, 20, 5, 0, 3, 5", z.undo(1), z.count(7), z.count(8), z.undo(1), z.count(7), z.count(8));
    }

    private static void undoesGivingUp() {
        CHECK.of("32: UNDONE: a COMMIT by which an INDEX was GIVEN UP (3): its LATER of 120");
        LateIndex x = Scene.after(y -> Check.build(y, 0, "index a"), Scene.putToLog(120), y -> Check.commit(y, Check.row(40, 1, 1, 1)));
        CHECK.dueAll("ended by, undo, state, later, last, ended by", "3, 7, 1, 120, 31, 0", x.index(0, 15), x.undo(1),
            x.index(0, 0), x.index(0, 4), x.logged(0, 1, 119, 1), x.index(0, 15));
        CHECK.of("32: UNDONE: a work() by which an INDEX was GIVEN UP (2)");
        LateIndex y = Scene.after(z -> z.terms(1, 1), Scene.inState(1, 2), Scene.putToLog(4), z -> z.work(1, 100));
        CHECK.dueAll("ended by, undo, state, later, round", "2, 7, 2, 4, 1", y.index(1, 15), y.undo(1), y.index(1, 0), y.index(1, 4),
            y.index(1, 5));
        CHECK.of("32: UNDONE: a work() by which an INDEX came to be READY, or of ALIKE ones: NOW as it was");
        LateIndex z = Scene.after(Scene.inState(1, 2), Scene.putToLog(3), w -> w.work(1, 2), w -> w.work(1, 9));
        CHECK.dueAll("state, undo, state, now, first", "4, 7, 3, 2, 9", z.index(1, 0), z.undo(1), z.index(1, 0), z.index(1, 3),
            z.logged(1, 0, 0, 1));
    }

    private static void alsoIfNothingChanges() {
        CHECK.of("32, Terms: (.. also if nothing changes): a sweep() of none, a term as it was");
        LateIndex x = new LateIndex();
        x.sweep();
        x.terms(0, 3);
        x.terms(1, 5);
        due("count(6)", 3, x.count(6));
        CHECK.of("32, Terms: (.. also if nothing changes): a put() as it was, an erase() as it was");
        LateIndex y = Scene.after(z -> z.begin(0), z -> z.put(0, 1, 1, 1, 1), z -> z.put(0, 1, 1, 1, 1), z -> z.erase(0, 2),
            z -> z.erase(0, 2));
        due("count(6)", 5, y.count(6));
        CHECK.of("32, Terms: (.. also if nothing changes): a COMMIT that WAITS, one that is FULL");
        LateIndex z = Scene.after(w -> Check.build(w, 0, "index a"), w -> w.work(0, 49), w -> w.begin(0), w -> w.erase(0, 0));
        CHECK.dueAll("count(6), commit, count(6)", "4, 0, 5", z.count(6), z.commit(0), z.count(6));
        CHECK.dueAll("undo, open, writes", "4, 1, 1", z.undo(1), z.count(2), z.count(10));
        LateIndex full = Scene.after(Scene.versions(0, 7), w -> w.image(0), w -> w.restore(0), w -> w.begin(0), w -> w.erase(0, 0));
        CHECK.dueAll("count(6), commit, why, count(6)", "2, 0, 4, 3", full.count(6), full.commit(0), full.why(), full.count(6));
        CHECK.dueAll("undo, open, writes", "2, 1, 1", full.undo(1), full.count(2), full.count(10));
        CHECK.of("32, Terms: a work() that does nothing but a turn");
        LateIndex turn = Scene.after(w -> Check.build(w, 0, "index a"), w -> w.work(0, 48), w -> w.work(0, 1));
        CHECK.dueAll("count(6), undo, state", "3, 2, 2", turn.count(6), turn.undo(1), turn.index(0, 0));
    }

    private static void notRefused() {
        CHECK.of("32, Terms: (.. not refused ..)");
        LateIndex x = Scene.after(y -> y.begin(0));
        Scene.Call[] refused = {y -> y.begin(0), y -> y.begin(4), y -> y.put(0, 0, 100, 0, 0), y -> y.put(1, 0, 0, 0, 0),
            y -> y.erase(1, 0), y -> y.erase(0, 48), y -> y.commit(1), y -> y.commit(4), y -> y.roll(1), y -> y.roll(-1),
            y -> y.build(0, 0), y -> y.build(2, 0), y -> Check.build(y, 0, "index a,a"), y -> y.work(0, 1), y -> y.work(0, 0),
            y -> y.takeUp(0), y -> y.giveUp(0), y -> y.giveUp(2), y -> y.terms(0, 21), y -> y.terms(1, 0), y -> y.terms(2, 0),
            y -> y.undo(2), y -> y.undo(0), y -> y.restore(0), y -> y.restore(2), y -> y.image(2), y -> y.query(1)};
        for (int k = 0; k < refused.length; k++) {
            CHECK.dueAll("refused " + k + ", count(6)", "1, 1", refused[k].on(x) < -1 ? 1 : 0, x.count(6));
        }
    }

    private static void toldNothing() {
        CHECK.of("32, Terms: Calls that told something: none but begin() to terms()");
        LateIndex x = Scene.after(Scene.inState(0, 4), y -> y.begin(0), y -> y.undo(3));
        int can = x.count(6);
        Scene.Call[] others = {y -> y.why(), y -> y.see(-1, 0, 0), y -> y.feed(0, 0, 0, 0, 0), y -> y.query(0), y -> y.fault(0),
            y -> Check.query(y, "find"), y -> y.index(0, 0), y -> y.entry(0, 0, 0), y -> y.logged(0, 0, 0, 0), y -> y.ahead(0, 0, 0, 0),
            y -> y.same(0, 0, 0, 0), y -> y.reads(0, 0), y -> y.by(0), y -> y.find(-1), y -> y.found(-1, 0), y -> y.plan(0), y -> y.far(0),
            y -> y.alike(0, -1, 0), y -> y.units(0, 0), y -> y.free(), y -> y.image(0), y -> y.image(1), y -> y.count(6)};
        for (int k = 0; k < others.length; k++) {
            others[k].on(x);
            due("count(6) behind " + k, can, x.count(6));
        }
    }

    private static void allBut() {
        CHECK.of("32, Terms: all but THE TAPE, the FAULT, why(), the QUERY: undo()");
        LateIndex x = Scene.after(AllBut::before, AllBut::told, y -> y.undo(4));
        AllBut.stays(x);
        CHECK.of("34, Terms: all but THE TAPE, the FAULT, why(), the QUERY: restore()");
        LateIndex y = Scene.after(AllBut::before, z -> z.image(1), AllBut::told, z -> z.restore(1));
        AllBut.stays(y);
        CHECK.of("33: none of them changed by image()");
        LateIndex z = Scene.after(AllBut::before, AllBut::told, w -> w.image(0));
        AllBut.stays(z);
    }

    /** Something of what is neither undone nor restored, ahead of an image and behind it. */
    private static final class AllBut {
        static void before(LateIndex x) {
            Check.commit(x, Check.row(5, 1, 1, 1), Check.row(6, 2, 1, 1));
            x.begin(0);
            x.put(0, 5, 2, 2, 2);
            Check.query(x, "find");
            Check.tape(x, "index a");
        }

        static void told(LateIndex x) {
            x.query(0);
            Check.commit(x, Check.row(5, 3, 3, 3));
            x.commit(0);
            Check.query(x, "find a > 1 order c");
            Check.query(x, "find order b,b");
            Check.tape(x, "index a" + " ".repeat(33));
        }

        static void stays(LateIndex x) {
            CHECK.dueAll("bytes, fault, place, why", "40, 3, 13, 1", x.count(5), x.fault(0), x.fault(1), x.why());
            Check.commit(x, Check.row(5), Check.row(6, 2, 1, 1), Check.row(7, 1, 1, 1));
            CHECK.dueAll("found by the QUERY", "6", Check.foundRows(x, -1));
        }
    }

    private static void images() {
        CHECK.of("33, 34: IMAGES 0 to 1 (none at first): -6: none was made");
        LateIndex x = new LateIndex();
        CHECK.dueAll("restore", "-6, -6", x.restore(0), x.restore(1));
        CHECK.dueAll("image(0), restore", "0, -6, 0", x.image(0), x.restore(1), x.restore(0));
        CHECK.dueAll("image(1), restore", "0, 0, 0", x.image(1), x.restore(1), x.restore(0));
        CHECK.of("33, 34: each its own");
        LateIndex y = Scene.after(z -> z.terms(0, 10), z -> z.image(0), z -> z.terms(0, 11), z -> z.image(1), z -> z.terms(0, 12));
        CHECK.dueAll("restore, SHORT", "0, 10, 0, 11, 0, 10", y.restore(0), y.count(7), y.restore(1), y.count(7), y.restore(0),
            y.count(7));
        CHECK.of("33: An IMAGE is made: again, in place of the elder");
        y.terms(0, 13);
        y.image(0);
        y.terms(0, 14);
        CHECK.dueAll("restore, SHORT", "0, 13, 0, 11", y.restore(0), y.count(7), y.restore(1), y.count(7));
        CHECK.of("33, 34: an IMAGE of a new object");
        LateIndex w = Scene.after(v -> v.image(0), Scene.inState(0, 4), v -> v.restore(0));
        CHECK.dueAll("rows, seq, versions, state, open", "0, 0, 48, 0, 0", w.count(0), w.count(1), w.count(3), w.index(0, 0),
            w.count(2));
    }

    private static void imageOfAll() {
        CHECK.of("34: All that is in an IMAGE is as it was: ROWS, SEQ, VERSIONS, TRANSACTIONS, TERMS");
        LateIndex x = Scene.after(Scene::busy, y -> y.terms(0, 7), y -> y.terms(1, 8), y -> y.image(1), y -> y.roll(0),
            y -> y.roll(1), y -> y.sweep(), y -> Check.commit(y, Check.row(0), Check.row(30, 30, 30, 30)), y -> y.terms(0, 1),
            y -> y.terms(1, 1), y -> y.work(1, 200), y -> y.giveUp(0), y -> y.giveUp(1));
        LateIndex same = Scene.after(Scene::busy, y -> y.terms(0, 7), y -> y.terms(1, 8));
        due("restore", 0, x.restore(1));
        for (int what : new int[] {0, 1, 2, 3, 4, 7, 8, 10, 11, 12, 13, 20, 21, 22, 23}) {
            due("count(" + what + ")", same.count(what), x.count(what));
        }
        for (int t = -1; t < 3; t++) {
            for (int row : new int[] {0, 1, 2, 3, 5, 10, 17, 18, 20, 30, 47}) {
                due("see(" + t + ", " + row + ", 2)", same.see(t, row, 2), x.see(t, row, 2));
            }
        }
        CHECK.of("34: All that is in an IMAGE is as it was: INDEXES, their ENTRIES and LOGS");
        for (int i = 0; i < 2; i++) {
            for (int what = 0; what < 16; what++) {
                due("index(" + i + ", " + what + ")", same.index(i, what), x.index(i, what));
            }
            for (int k = 0; k < 6; k++) {
                CHECK.dueAll("entry, logged " + k, same.entry(i, k, 0) + ", " + same.entry(i, k, 1) + ", " + same.logged(i, 0, k, 1)
                    + ", " + same.logged(i, 1, k, 2), x.entry(i, k, 0), x.entry(i, k, 1), x.logged(i, 0, k, 1), x.logged(i, 1, k, 2));
            }
        }
    }

    private static void imageOfItsOwn() {
        CHECK.of("34: restored again and again: what comes behind changes no IMAGE");
        LateIndex x = Scene.after(Scene.inState(0, 2), Scene.putToLog(5), y -> y.image(0));
        for (int turn = 0; turn < 3; turn++) {
            x.work(0, 200);
            Check.commit(x, Check.row(0, 50 + turn, 1, 1));
            CHECK.dueAll("restore, state, later, seq, far", "0, 2, 5, 2, 5", x.restore(0), x.index(0, 0), x.index(0, 4), x.count(1),
                x.far(0));
        }
        CHECK.of("33: undo() changes no IMAGE");
        LateIndex y = told(5);
        y.image(0);
        y.undo(4);
        CHECK.dueAll("SHORT, restore, SHORT", "1, 0, 5", y.count(7), y.restore(0), y.count(7));
        CHECK.of("33: An IMAGE is made of what is undone to");
        LateIndex z = told(5);
        z.undo(2);
        z.image(1);
        z.terms(0, 20);
        CHECK.dueAll("restore, SHORT", "0, 3", z.restore(1), z.count(7));
    }

    private static void nothingBehind() {
        CHECK.of("34, Terms: IMAGES: nothing can be UNDONE behind");
        LateIndex x = told(8);
        x.image(0);
        CHECK.dueAll("restore, count(6), undo", "0, 0, -3", x.restore(0), x.count(6), x.undo(1));
        CHECK.of("34: what is told behind can be UNDONE, not further");
        x.terms(0, 20);
        CHECK.dueAll("count(6), undo(2), undo(1), SHORT", "1, -3, 0, 8", x.count(6), x.undo(2), x.undo(1), x.count(7));
        CHECK.of("34: eight can be UNDONE again behind");
        for (int k = 10; k < 20; k++) {
            x.terms(0, k);
        }
        CHECK.dueAll("count(6), undo(8), SHORT", "8, 0, 11", x.count(6), x.undo(8), x.count(7));
        CHECK.of("33: image() leaves what can be UNDONE");
        LateIndex y = told(5);
        CHECK.dueAll("image, count(6), undo, SHORT", "0, 5, 4, 4", y.image(0), y.count(6), y.undo(1), y.count(7));
        CHECK.of("34: a restore() that is refused leaves what can be UNDONE");
        CHECK.dueAll("restore, count(6)", "-6, 4", y.restore(1), y.count(6));
    }

    private static void countRowsAndVersions() {
        CHECK.of("35: 0 ROWS of THE TABLE: none, one, all 48");
        LateIndex x = new LateIndex();
        due("none", 0, x.count(0));
        Check.commit(x, Check.row(47, 1, 1, 1));
        due("one", 1, x.count(0));
        due("all", 48, Scene.after(Scene::everyRow).count(0));
        CHECK.of("35: 1 SEQ: 0 at first, one more by each COMMIT with WRITES");
        CHECK.dueAll("count(1)", "0, 1, 6, 7", new LateIndex().count(1), x.count(1), Scene.after(Scene::everyRow).count(1),
            Scene.after(Scene.versions(3, 7)).count(1));
        CHECK.of("35: 3 VERSIONS in all (those of SEQ 0, too): the least and the greatest of a ROW");
        CHECK.dueAll("count(3)", "48, 49, 55, 96", new LateIndex().count(3), x.count(3), Scene.after(Scene.versions(3, 9)).count(3),
            Scene.after(Scene::everyRow).count(3));
    }

    private static void countTransactions() {
        CHECK.of("35: 2 TRANSACTIONS that are open (bits): none, each, all");
        for (int t = 0; t < 4; t++) {
            int one = t;
            due("count(2)", 1 << t, Scene.after(x -> x.begin(one)).count(2));
        }
        LateIndex x = Scene.after(y -> Check.commit(y, Check.row(0, 1, 1, 1)), y -> y.begin(0), y -> y.begin(1), y -> y.begin(2),
            y -> y.begin(3));
        CHECK.dueAll("count(2)", "0, 15", new LateIndex().count(2), x.count(2));
        CHECK.of("35: 10 to 13 WRITES of each TRANSACTION: none, one, eight");
        x.put(1, 0, 1, 1, 1);
        Scene.eightWrites(x, 3, 40);
        CHECK.dueAll("count(10 ..)", "0, 1, 0, 8", x.count(10), x.count(11), x.count(12), x.count(13));
        CHECK.of("35: 20 to 23 SNAP of each (NONE: it isn't open)");
        x.commit(0);
        x.roll(2);
        x.roll(3);
        CHECK.dueAll("count(20 ..), count(13)", "-1, 1, -1, -1, 0", x.count(20), x.count(21), x.count(22), x.count(23), x.count(13));
        CHECK.of("35: 20 to 23: SNAP 0 is none that isn't open");
        due("count(20)", 0, Scene.after(y -> y.begin(0)).count(20));
    }

    private static void countWaits() {
        for (int state = 0; state <= 5; state++) {
            CHECK.of("35: 4 1 if a COMMIT with WRITES WAITS now: STATE " + state);
            CHECK.dueAll("count(4)", state == 3 ? "1, 1" : "0, 0", Scene.after(Scene.inState(0, state)).count(4),
                Scene.after(Scene.inState(1, state)).count(4));
        }
    }

    private static void countTape() {
        CHECK.of("35: 5 bytes on THE TAPE: none, twenty, a hundred, none behind a build(), a query()");
        LateIndex x = new LateIndex();
        due("none", 0, x.count(5));
        Check.tape(x, "find");
        due("twenty", 20, x.count(5));
        x.query(4);
        due("none", 0, x.count(5));
        Check.tape(x, " ".repeat(100));
        due("a hundred", 100, x.count(5));
        x.build(0, 100);
        due("none", 0, x.count(5));
        CHECK.of("35: 7 SHORT, 8 MOST: their ends");
        LateIndex y = Scene.after(z -> z.terms(0, 0), z -> z.terms(1, 9));
        LateIndex z = Scene.after(w -> w.terms(0, 20), w -> w.terms(1, 1));
        CHECK.dueAll("count(7), count(8)", "0, 9, 20, 1", y.count(7), y.count(8), z.count(7), z.count(8));
    }

    private static void countOthers() {
        CHECK.of("35: NONE for others");
        LateIndex x = Scene.after(Scene::busy);
        for (int what : new int[] {Integer.MIN_VALUE, -20, -10, -1, 9, 14, 15, 19, 24, 100, Integer.MAX_VALUE}) {
            due("count(" + what + ")", -1, x.count(what));
        }
        CHECK.of("35: the first and the last of each");
        CHECK.dueAll("count", "5, 5, 8, 0, 1, -1", x.count(0), x.count(8), x.count(10), x.count(13), x.count(22), x.count(23));
    }
}
