/** The edges that promises 1 to 9 name, and the sentences on rows, versions and commits that they rest on. */
public final class TransactionEdgesTest {
    private static final Check CHECK = new Check("transaction edges");

    public static void main(String[] args) {
        newObject();
        begin();
        putRowsAndNumbers();
        putEight();
        erase();
        erasedEight();
        commitWithoutWrites();
        commitWaits();
        commitConflict();
        commitFull();
        commitAlike();
        commitAlikeSpares();
        whichComesFirst();
        commitGoesOn();
        commitRefusedKeeps();
        why();
        roll();
        see();
        seeSnaps();
        sweepNothing();
        sweepSnaps();
        sweepScans();
        CHECK.close();
    }

    private static void due(String call, int want, int got) {
        CHECK.due(call, want, got);
    }

    private static void newObject() {
        CHECK.of("1: No ROWS");
        LateIndex x = new LateIndex();
        for (int row = 0; row < 48; row++) {
            due("row " + row, 0, x.see(-1, row, 0));
            due("its a", -1, x.see(-1, row, 1));
        }
        CHECK.dueAll("count(0), free()", "0, 0", x.count(0), x.free());
        CHECK.of("1: No INDEXES");
        for (int i = 0; i < 2; i++) {
            for (int what = 0; what < 16; what++) {
                boolean none = what == 2 || what == 6 || (what >= 9 && what <= 12);
                due("index(" + i + ", " + what + ")", none ? -1 : 0, x.index(i, what));
            }
        }
        CHECK.of("1, Terms: at first none is there (SEQ 0), SEQ 0, no transaction, SHORT 3, MOST 5, nothing to undo");
        int[] want = {0, 0, 0, 48, 0, 0, 0, 3, 5, -1, 0, 0, 0, 0, -1, -1, -1, -1, -1, -1, -1, -1, -1, -1, -1};
        for (int what = 0; what < want.length; what++) {
            due("count(" + what + ")", want[what], x.count(what));
        }
        CHECK.of("1, Terms: IMAGES: none at first; no QUERY; no why; no FAULT");
        CHECK.dueAll("restore(0), restore(1), find(-1), why(), fault(0), fault(1)", "-6, -6, -5, 0, 0, -1", x.restore(0),
            x.restore(1), x.find(-1), x.why(), x.fault(0), x.fault(1));
    }

    private static void begin() {
        CHECK.of("2, Terms: TRANSACTIONS 0 to 3");
        LateIndex x = new LateIndex();
        CHECK.dueAll("begin", "0, 0, 0, 0", x.begin(0), x.begin(3), x.begin(1), x.begin(2));
        due("all are open", 15, x.count(2));
        CHECK.of("2: its SNAP (SEQ as it began)");
        x.roll(0);
        x.roll(3);
        due("a commit", 1, Check.commit(x, Check.row(7, 1, 1, 1)));
        due("begin(0)", 1, x.begin(0));
        due("another commit", 2, Check.commit(x, Check.row(7, 2, 2, 2)));
        due("begin(3)", 2, x.begin(3));
        CHECK.dueAll("snaps", "1, 0, 0, 2", x.count(20), x.count(21), x.count(22), x.count(23));
        CHECK.of("2: -5: it is open: no more once it is over");
        x.commit(1);
        x.roll(2);
        CHECK.dueAll("begin", "2, 2", x.begin(1), x.begin(2));
    }

    private static void putRowsAndNumbers() {
        CHECK.of("3, Terms: ROWS 0 to 47");
        LateIndex x = new LateIndex();
        x.begin(0);
        CHECK.dueAll("put", "1, 2", x.put(0, 0, 1, 2, 3), x.put(0, 47, 4, 5, 6));
        CHECK.dueAll("the first and the last", "1, 3, 4, 6", x.see(0, 0, 1), x.see(0, 0, 3), x.see(0, 47, 1), x.see(0, 47, 3));
        CHECK.of("3, Terms: COLUMNS a, b, c (0 to 99)");
        x.put(0, 0, 0, 0, 0);
        x.put(0, 1, 99, 99, 99);
        x.put(0, 2, 99, 0, 0);
        x.put(0, 3, 0, 99, 0);
        x.put(0, 4, 0, 0, 99);
        int[] want = {0, 0, 0, 99, 99, 99, 99, 0, 0, 0, 99, 0, 0, 0, 99};
        due("commit", 1, x.commit(0));
        for (int k = 0; k < 15; k++) {
            due("see(-1, " + k / 3 + ", " + (1 + k % 3) + ")", want[k], x.see(-1, k / 3, 1 + k % 3));
        }
    }

    private static void putEight() {
        CHECK.of("3: how many WRITES (each ROW once)");
        LateIndex x = new LateIndex();
        x.begin(2);
        due("the first", 1, x.put(2, 40, 1, 1, 1));
        due("it again", 1, x.put(2, 40, 2, 2, 2));
        x.erase(2, 40);
        due("it erased and put", 1, x.put(2, 40, 3, 3, 3));
        CHECK.of("3: -4: there are 8 (others): eight are taken, a ninth not");
        for (int k = 1; k < 8; k++) {
            due("put " + (k + 1), k + 1, x.put(2, 40 - k, k, k, k));
        }
        due("a ninth", -4, x.put(2, 0, 1, 1, 1));
        CHECK.of("3: one of the 8 may be put again");
        CHECK.dueAll("put", "8, 8", x.put(2, 40, 9, 9, 9), x.put(2, 33, 8, 8, 8));
        CHECK.dueAll("they are so", "9, 8", x.see(2, 40, 1), x.see(2, 33, 1));
        CHECK.of("3: eight of one TRANSACTION are none of another");
        x.begin(1);
        due("put", 1, x.put(1, 0, 1, 1, 1));
        CHECK.of("3: there is room again behind commit()");
        x.commit(2);
        x.begin(2);
        due("put", 1, x.put(2, 0, 1, 1, 1));
    }

    private static void erase() {
        CHECK.of("4: 1 if it saw it");
        LateIndex x = new LateIndex();
        Check.commit(x, Check.row(0, 1, 1, 1), Check.row(47, 1, 1, 1), Check.row(5, 0, 0, 0));
        x.begin(0);
        CHECK.dueAll("of THE TABLE, the first and the last", "1, 1", x.erase(0, 0), x.erase(0, 47));
        x.put(0, 9, 1, 1, 1);
        due("of its WRITES", 1, x.erase(0, 9));
        CHECK.of("4: else 0");
        CHECK.dueAll("never there, erased by it, put and erased by it", "0, 0, 0", x.erase(0, 8), x.erase(0, 0), x.erase(0, 9));
        CHECK.of("4: it saw it: as it was when it began");
        x.begin(1);
        Check.commit(x, Check.row(5), Check.row(20, 1, 1, 1));
        CHECK.dueAll("gone since, come since", "1, 0", x.erase(1, 5), x.erase(1, 20));
        x.begin(2);
        CHECK.dueAll("one that began later", "0, 1", x.erase(2, 5), x.erase(2, 20));
        CHECK.of("4: A ROW shall not be there: as a WRITE, in THE TABLE only by commit()");
        CHECK.dueAll("writes, seen by it, the table", "4, 0, 1", x.count(10), x.see(0, 47, 0), x.see(-1, 47, 0));
        due("commit", 3, x.commit(0));
        due("the table", 0, x.see(-1, 47, 0));
    }

    private static void erasedEight() {
        CHECK.of("4: -4: there are 8 (others): eight are taken, a ninth not");
        LateIndex x = new LateIndex();
        Check.commit(x, Check.row(30, 1, 1, 1));
        x.begin(0);
        for (int row = 0; row < 8; row++) {
            due("erase " + row, 0, x.erase(0, row));
        }
        CHECK.dueAll("count(10), a ninth by erase, by put", "8, -4, -4", x.count(10), x.erase(0, 30), x.put(0, 30, 1, 1, 1));
        CHECK.of("4: one of the 8 may be erased again");
        due("put one of them", 8, x.put(0, 7, 1, 1, 1));
        CHECK.dueAll("erase it", "1, 0", x.erase(0, 7), x.erase(0, 7));
    }

    private static void commitWithoutWrites() {
        CHECK.of("5: COMMIT with no WRITES: it is over, SEQ stays");
        LateIndex x = new LateIndex();
        x.begin(0);
        due("at SEQ 0", 0, x.commit(0));
        CHECK.dueAll("why, open, seq, versions", "0, 0, 0, 48", x.why(), x.count(2), x.count(1), x.count(3));
        x.begin(0);
        Check.commit(x, Check.row(1, 1, 1, 1));
        Check.commit(x, Check.row(1, 1, 1, 1));
        due("SEQ then, not its SNAP", 2, x.commit(0));
        CHECK.of("5: COMMIT with no WRITES: ahead of all else, an INDEX in its last round");
        Check.build(x, 1, "index a");
        x.work(1, 49);
        x.begin(2);
        CHECK.dueAll("commit, why, open", "2, 0, 0", x.commit(2), x.why(), x.count(2));
        CHECK.of("5: an erased ROW is a WRITE, be it never there");
        x.work(1, 1);
        x.begin(2);
        x.erase(2, 44);
        CHECK.dueAll("commit, versions", "3, 51", x.commit(2), x.count(3));
    }

    private static void commitWaits() {
        for (int i = 0; i < 2; i++) {
            for (int state = 0; state <= 5; state++) {
                CHECK.of("5: It WAITS, if an INDEX is in its last round (3): INDEX " + i + " in STATE " + state);
                LateIndex x = Scene.after(Scene.inState(i, state), y -> y.begin(0), y -> y.put(0, 30, 30, 30, 30));
                due("state", state, x.index(i, 0));
                CHECK.dueAll("commit, why", state == 3 ? "0, 2" : "2, 0", x.commit(0), x.why());
                due("count(4)", state == 3 ? 1 : 0, x.count(4));
            }
        }
        CHECK.of("5: It WAITS (nothing is done)");
        LateIndex x = Scene.after(Scene.inState(0, 3), y -> y.begin(0), y -> y.put(0, 30, 30, 30, 30));
        x.commit(0);
        CHECK.dueAll("open, writes, snap, seq, versions, later", "1, 1, 1, 1, 51, 0", x.count(2), x.count(10), x.count(20),
            x.count(1), x.count(3), x.index(0, 4));
        CHECK.of("5: It WAITS: no longer than the last round");
        x.work(0, 1);
        CHECK.dueAll("commit, why, count(4)", "2, 0, 0", x.commit(0), x.why(), x.count(4));
    }

    private static void commitConflict() {
        CHECK.of("5: CONFLICT: a VERSION of a SEQ above SNAP");
        LateIndex x = new LateIndex();
        Check.commit(x, Check.row(0, 1, 1, 1));
        x.begin(0);
        x.put(0, 0, 2, 2, 2);
        due("one of SNAP itself is none", 2, x.commit(0));
        x.begin(0);
        x.begin(1);
        x.begin(2);
        Check.commit(x, Check.row(0, 3, 3, 3), Check.row(47));
        x.put(0, 0, 2, 2, 2);
        CHECK.dueAll("one of the next SEQ is", "0, 1", x.commit(0), x.why());
        x.put(1, 46, 2, 2, 2);
        x.put(1, 47, 2, 2, 2);
        CHECK.dueAll("so is an erased one, of the last ROW", "0, 1", x.commit(1), x.why());
        CHECK.of("5: CONFLICT: it is over without its WRITES");
        CHECK.dueAll("open, writes, seq, row 46", "4, 0, 3, 0", x.count(2), x.count(11), x.count(1), x.see(-1, 46, 0));
        CHECK.of("5: CONFLICT: of its WRITES, not of what it saw");
        x.see(2, 0, 0);
        x.put(2, 1, 2, 2, 2);
        CHECK.dueAll("commit, why", "4, 0", x.commit(2), x.why());
    }

    private static void commitFull() {
        CHECK.of("5: FULL: some ROW of its WRITES has 8 VERSIONS (that of SEQ 0, too): seven aren't too many");
        LateIndex x = Scene.after(Scene.versions(47, 6));
        CHECK.dueAll("versions, one more, versions", "54, 7, 55", x.count(3), Check.commit(x, Check.row(47, 9, 9, 9)), x.count(3));
        CHECK.of("5: FULL: eight are");
        x.begin(0);
        x.put(0, 46, 1, 1, 1);
        x.put(0, 47, 1, 1, 1);
        CHECK.dueAll("commit, why", "0, 4", x.commit(0), x.why());
        CHECK.of("5: FULL: it stays open");
        CHECK.dueAll("open, writes, seq, versions, row 46", "1, 2, 7, 55, 0", x.count(2), x.count(10), x.count(1), x.count(3),
            x.see(-1, 46, 0));
        CHECK.of("5: FULL: of its WRITES alone");
        due("another ROW", 8, Check.commit(x, Check.row(45, 1, 1, 1)));
        CHECK.of("5: FULL: no more once it is swept");
        CHECK.dueAll("sweep, commit, why", "7, 9, 0", x.sweep(), x.commit(0), x.why());
        CHECK.of("5: FULL: an erased ROW, too");
        LateIndex y = Scene.after(Scene.versions(0, 7), z -> z.begin(1));
        y.erase(1, 0);
        CHECK.dueAll("commit, why, open", "0, 4, 2", y.commit(1), y.why(), y.count(2));
    }

    private static LateIndex unique() {
        return Scene.after(x -> Check.commit(x, Check.row(0, 1, 2, 3), Check.row(1, 4, 5, 6), Check.row(2, 1, 2, 9)),
            x -> Check.ready(x, 0, "index a, b unique where c < 9"));
    }

    private static void commitAlike() {
        CHECK.of("5: ALIKE: two ROWS would have the same KEY: one of THE TABLE and one of its WRITES");
        LateIndex x = unique();
        CHECK.dueAll("commit, why", "0, 3", Check.commit(x, Check.row(40, 4, 5, 8)), x.why());
        CHECK.of("5: ALIKE: it is over without its WRITES");
        CHECK.dueAll("open, seq, row 40, entries", "0, 1, 0, 2", x.count(2), x.count(1), x.see(-1, 40, 0), x.index(0, 1));
        CHECK.of("5: ALIKE: two of its WRITES");
        CHECK.dueAll("commit, why", "0, 3", Check.commit(x, Check.row(46, 9, 9, 0), Check.row(47, 9, 9, 8)), x.why());
        CHECK.of("5: ALIKE: a ROW that comes to be one for which where holds");
        CHECK.dueAll("commit, why", "0, 3", Check.commit(x, Check.row(2, 1, 2, 8)), x.why());
        CHECK.of("5: ALIKE: by its WRITES, not by what it saw: it is judged by THE TABLE");
        x.begin(0);
        x.put(0, 30, 7, 7, 7);
        Check.commit(x, Check.row(31, 7, 7, 7));
        CHECK.dueAll("commit, why", "0, 3", x.commit(0), x.why());
        CHECK.of("5: ALIKE: the second INDEX as the first");
        LateIndex y = Scene.after(z -> Check.ready(z, 1, "index c unique"), z -> Check.commit(z, Check.row(0, 0, 0, 0)));
        CHECK.dueAll("commit, why", "0, 3", Check.commit(y, Check.row(1, 9, 9, 0)), y.why());
    }

    private static void commitAlikeSpares() {
        CHECK.of("5: not ALIKE: another KEY in the last COLUMN, or where doesn't hold");
        LateIndex x = unique();
        due("another KEY", 2, Check.commit(x, Check.row(40, 4, 6, 6)));
        due("where doesn't hold", 3, Check.commit(x, Check.row(41, 4, 5, 9)));
        CHECK.of("5: not ALIKE: the ROW itself with the same KEY");
        due("commit", 4, Check.commit(x, Check.row(1, 4, 5, 0)));
        CHECK.of("5: not ALIKE: the other ROW is erased, or changed by the same WRITES");
        due("erased", 5, Check.commit(x, Check.row(1), Check.row(45, 4, 5, 1)));
        due("changed about", 6, Check.commit(x, Check.row(0, 4, 5, 1), Check.row(45, 1, 2, 3)));
        CHECK.of("5: not ALIKE: an INDEX that isn't unique");
        LateIndex y = Scene.after(Scene.inState(0, 4));
        due("commit", 2, Check.commit(y, Check.row(7, 1, 2, 3)));
        for (int state : new int[] {1, 2, 5}) {
            CHECK.of("5: not ALIKE: a unique INDEX that isn't READY: STATE " + state);
            LateIndex z = Scene.after(Scene.inState(1, 0), w -> Check.build(w, 1, "index a unique"),
                w -> w.work(1, state == 1 ? 47 : state == 2 ? 48 : 50));
            CHECK.dueAll("state, commit, why", state + ", 2, 0", z.index(1, 0), Check.commit(z, Check.row(7, 5, 0, 0)), z.why());
        }
    }

    private static void whichComesFirst() {
        CHECK.of("5: WAITS comes ahead of CONFLICT, FULL, ALIKE");
        Scene.Way both = x -> {
            Check.commit(x, Check.row(1, 50, 1, 1));
            Check.ready(x, 0, "index a unique");
            x.begin(0);
            x.put(0, 0, 50, 1, 1);
        };
        LateIndex x = Scene.after(both, Scene.versions(0, 7), y -> Check.build(y, 1, "index b"), y -> y.work(1, 49));
        CHECK.dueAll("commit, why, open", "0, 2, 1", x.commit(0), x.why(), x.count(2));
        CHECK.of("5: CONFLICT comes ahead of FULL and ALIKE");
        x.work(1, 1);
        CHECK.dueAll("commit, why, open", "0, 1, 0", x.commit(0), x.why(), x.count(2));
        CHECK.of("5: FULL comes ahead of ALIKE");
        x.begin(0);
        x.put(0, 0, 50, 1, 1);
        CHECK.dueAll("commit, why, open", "0, 4, 1", x.commit(0), x.why(), x.count(2));
        x.sweep();
        CHECK.dueAll("swept: commit, why, open", "0, 3, 0", x.commit(0), x.why(), x.count(2));
        CHECK.of("5: CONFLICT of one ROW comes ahead of FULL of a lower one");
        LateIndex z = Scene.after(Scene.versions(0, 7), y -> y.begin(1), y -> Check.commit(y, Check.row(1, 1, 1, 1)));
        z.put(1, 0, 1, 1, 1);
        z.put(1, 1, 1, 1, 1);
        CHECK.dueAll("commit, why", "0, 1", z.commit(1), z.why());
    }

    private static void commitGoesOn() {
        CHECK.of("5: else SEQ is one more, each ROW of its WRITES has a VERSION of that: all eight");
        LateIndex x = new LateIndex();
        x.begin(0);
        Scene.eightWrites(x, 0, 40);
        CHECK.dueAll("commit, rows, versions, seq", "1, 8, 56, 1", x.commit(0), x.count(0), x.count(3), x.count(1));
        CHECK.of("5: also one that is as the one ahead");
        x.begin(0);
        x.put(0, 40, 0, 0, 0);
        x.erase(0, 0);
        CHECK.dueAll("commit, rows, versions", "2, 8, 58", x.commit(0), x.count(0), x.count(3));
        CHECK.of("5: it is over");
        CHECK.dueAll("open, writes, snap, commit again", "0, 0, -1, -5", x.count(2), x.count(10), x.count(20), x.commit(0));
        CHECK.of("5: SEQ then");
        x.begin(0);
        x.begin(1);
        x.put(0, 1, 1, 1, 1);
        x.put(1, 2, 2, 2, 2);
        CHECK.dueAll("commits", "3, 4", x.commit(1), x.commit(0));
    }

    private static void commitRefusedKeeps() {
        CHECK.of("5: a COMMIT that is over without its WRITES: nothing of them later");
        LateIndex x = new LateIndex();
        x.begin(0);
        x.put(0, 3, 1, 1, 1);
        x.put(0, 4, 1, 1, 1);
        Check.commit(x, Check.row(3, 2, 2, 2));
        x.commit(0);
        x.begin(0);
        CHECK.dueAll("writes, rows 3 and 4", "0, 2, 0", x.count(10), x.see(0, 3, 1), x.see(0, 4, 0));
    }

    private static void why() {
        CHECK.of("6: 0: it didn't: behind one that told 0 with no WRITES at SEQ 0");
        LateIndex x = new LateIndex();
        x.begin(0);
        CHECK.dueAll("commit, why", "0, 0", x.commit(0), x.why());
        CHECK.of("6: 1 CONFLICT");
        x.begin(0);
        x.put(0, 0, 1, 1, 1);
        Check.commit(x, Check.row(0, 2, 2, 2));
        CHECK.dueAll("commit, why", "0, 1", x.commit(0), x.why());
        CHECK.of("6: the latest commit() that wasn't refused");
        CHECK.dueAll("-2, -2, -5, why", "-2, -2, -5, 1", x.commit(-1), x.commit(4), x.commit(0), x.why());
        CHECK.of("6: the latest: 0 behind one that is done");
        Check.commit(x, Check.row(9, 0, 1, 1));
        due("why", 0, x.why());
        CHECK.of("6: 2 it WAITS");
        Check.build(x, 0, "index b unique");
        x.work(0, 49);
        CHECK.dueAll("commit, why", "0, 2", Check.commit(x, Check.row(30, 1, 1, 1)), x.why());
        CHECK.of("6: 3 ALIKE");
        x.work(0, 1);
        CHECK.dueAll("commit, why", "0, 3", x.commit(3), x.why());
        CHECK.of("6: 4 FULL");
        LateIndex y = Scene.after(Scene.versions(1, 7));
        CHECK.dueAll("commit, why", "0, 4", Check.commit(y, Check.row(1, 1, 1, 1)), y.why());
        CHECK.of("6: neither undo() nor restore() changes it");
        y.undo(8);
        due("why", 4, y.why());
        y.image(0);
        y.restore(0);
        due("why", 4, y.why());
    }

    private static void roll() {
        CHECK.of("7: how many they were: none and eight");
        LateIndex x = new LateIndex();
        x.begin(3);
        due("none", 0, x.roll(3));
        x.begin(3);
        Scene.eightWrites(x, 3, 0);
        due("eight", 8, x.roll(3));
        CHECK.of("7: It is over without its WRITES");
        CHECK.dueAll("open, writes, snap, rows, versions, again", "0, 0, -1, 0, 48, -5", x.count(2), x.count(13), x.count(23),
            x.count(0), x.count(3), x.roll(3));
        x.begin(3);
        CHECK.dueAll("nothing of them later", "0, 0, 1", x.see(3, 0, 0), x.see(3, 7, 0), x.put(3, 9, 1, 1, 1));
        CHECK.of("7: also while a COMMIT would wait");
        Check.build(x, 0, "index a");
        x.work(0, 49);
        due("one", 1, x.roll(3));
    }

    private static void see() {
        CHECK.of("8: what 0: 1 if it is there, 1 to 3: a, b, c");
        LateIndex x = new LateIndex();
        Check.commit(x, Check.row(0, 0, 99, 0), Check.row(47, 99, 0, 99));
        CHECK.dueAll("the first", "1, 0, 99, 0", x.see(-1, 0, 0), x.see(-1, 0, 1), x.see(-1, 0, 2), x.see(-1, 0, 3));
        CHECK.dueAll("the last", "1, 99, 0, 99", x.see(-1, 47, 0), x.see(-1, 47, 1), x.see(-1, 47, 2), x.see(-1, 47, 3));
        CHECK.of("8: (NONE: it isn't there)");
        Check.commit(x, Check.row(47));
        CHECK.dueAll("erased", "0, -1, -1, -1", x.see(-1, 47, 0), x.see(-1, 47, 1), x.see(-1, 47, 2), x.see(-1, 47, 3));
        CHECK.dueAll("never there", "0, -1, -1, -1", x.see(-1, 1, 0), x.see(-1, 1, 1), x.see(-1, 1, 2), x.see(-1, 1, 3));
        CHECK.of("8: t NONE: THE TABLE, not what one writes");
        x.begin(0);
        x.begin(3);
        x.put(0, 1, 5, 6, 7);
        x.erase(3, 0);
        CHECK.dueAll("the table", "0, 1", x.see(-1, 1, 0), x.see(-1, 0, 0));
        CHECK.of("8: it sees its WRITES, the first and the last TRANSACTION");
        CHECK.dueAll("0", "1, 5, 6, 7, 1", x.see(0, 1, 0), x.see(0, 1, 1), x.see(0, 1, 2), x.see(0, 1, 3), x.see(0, 0, 0));
        CHECK.dueAll("3", "0, -1, 0", x.see(3, 0, 0), x.see(3, 0, 1), x.see(3, 1, 0));
    }

    private static void seeSnaps() {
        CHECK.of("8, Terms: else of each ROW the latest VERSION of SEQ up to SNAP");
        LateIndex x = new LateIndex();
        x.begin(0);
        Check.commit(x, Check.row(9, 1, 1, 1));
        x.begin(1);
        Check.commit(x, Check.row(8, 1, 1, 1));
        Check.commit(x, Check.row(9, 3, 3, 3));
        x.begin(2);
        CHECK.dueAll("of SEQ 0, 1, 3", "-1, 1, 3", x.see(0, 9, 1), x.see(1, 9, 1), x.see(2, 9, 1));
        CHECK.of("8, Terms: with eight VERSIONS, the first and the last");
        LateIndex y = Scene.after(z -> z.begin(0), Scene.versions(0, 7), z -> z.begin(1));
        CHECK.dueAll("seen", "0, 6, 6", y.see(0, 0, 0), y.see(1, 0, 1), y.see(-1, 0, 1));
    }

    private static void sweepNothing() {
        CHECK.of("9: how many VERSIONS go: none");
        LateIndex x = new LateIndex();
        due("of a new object", 0, x.sweep());
        Check.commit(x, Check.row(1, 1, 1, 1));
        x.sweep();
        due("again", 0, x.sweep());
        CHECK.of("9: how many VERSIONS go: all but the latest of SEQ");
        LateIndex y = Scene.after(Scene.versions(0, 7), Scene.versions(47, 7));
        CHECK.dueAll("versions, sweep, versions", "62, 14, 48", y.count(3), y.sweep(), y.count(3));
        CHECK.dueAll("the table", "6, 6", y.see(-1, 0, 1), y.see(-1, 47, 1));
        CHECK.of("9: one that tells that the ROW isn't there is kept as any other");
        Check.commit(y, Check.row(0));
        CHECK.dueAll("sweep, versions, the table", "1, 48, 0", y.sweep(), y.count(3), y.see(-1, 0, 0));
    }

    private static void sweepSnaps() {
        CHECK.of("9: not the latest one of a SEQ up to the SNAP of some open one");
        LateIndex x = Scene.after(y -> y.begin(0), Scene.versions(5, 2), y -> y.begin(1), Scene.versions(5, 2), y -> y.begin(2));
        due("those of SEQ 1 and 3", 2, x.sweep());
        CHECK.dueAll("seen", "0, 1, 1", x.see(0, 5, 0), x.see(1, 5, 1), x.see(2, 5, 1));
        CHECK.of("9: SNAPS of ROWS that it doesn't write, the lowest at SEQ 0");
        CHECK.dueAll("versions", "50", x.count(3));
        CHECK.of("9: it goes once that one is over");
        x.roll(1);
        due("that of SEQ 2", 1, x.sweep());
        x.commit(0);
        due("that of SEQ 0", 1, x.sweep());
        x.roll(2);
        due("that of SEQ 4 is THE TABLE's", 0, x.sweep());
        CHECK.of("9: all four open ones at once");
        LateIndex y = new LateIndex();
        for (int t = 0; t < 4; t++) {
            y.begin(t);
            if (t < 3) {
                Check.commit(y, Check.row(2, t, t, t));
            }
        }
        y.roll(3);
        y.begin(3);
        y.put(0, 2, 9, 9, 9);
        due("none goes", 0, y.sweep());
        CHECK.dueAll("seen", "9, 0, 1, 2", y.see(0, 2, 1), y.see(1, 2, 1), y.see(2, 2, 1), y.see(3, 2, 1));
    }

    private static void sweepScans() {
        CHECK.of("9: nor that of a scan that goes on");
        LateIndex x = Scene.after(Scene.versions(47, 1), y -> Check.build(y, 1, "index a"), Scene.versions(47, 3));
        x.work(1, 47);
        due("those of SEQ 0, 2, 3", 3, x.sweep());
        due("the scan is over", 2, x.work(1, 1));
        due("its entry", 0, x.entry(1, 0, 1));
        CHECK.of("9: it goes once the scan is over");
        due("that of SEQ 1", 1, x.sweep());
        CHECK.of("9: it goes once the INDEX is given up");
        LateIndex y = Scene.after(Scene.versions(47, 1), z -> Check.build(z, 0, "index a"), Scene.versions(47, 2));
        y.giveUp(0);
        due("all but one", 3, y.sweep());
        CHECK.of("9: all four open ones and two scans at once");
        Scene.Way one = Scene.versions(30, 1);
        LateIndex all = Scene.after(one, w -> w.begin(1), one, w -> w.begin(2), one, w -> w.begin(0), one,
            w -> Check.build(w, 0, "index a"), one, w -> Check.build(w, 1, "index a"), one, w -> w.begin(3));
        CHECK.dueAll("versions, sweep, see", "54, 1, 0, 0, 0, 0", all.count(3), all.sweep(), all.see(1, 30, 1), all.see(2, 30, 1),
            all.see(0, 30, 1), all.see(3, 30, 1));
        CHECK.dueAll("snaps", "3, 1, 2, 6, 4, 5", all.count(20), all.count(21), all.count(22), all.count(23), all.index(0, 6),
            all.index(1, 6));
        CHECK.of("9: two scans, each its own");
        LateIndex z = Scene.after(w -> Check.build(w, 0, "index a"), Scene.versions(0, 2), w -> Check.build(w, 1, "index b"),
            Scene.versions(0, 2));
        due("those of SEQ 1 and 3", 2, z.sweep());
        z.work(0, 1);
        z.work(1, 1);
        CHECK.dueAll("entries", "0, 1", z.index(0, 1), z.entry(1, 0, 1));
    }
}
