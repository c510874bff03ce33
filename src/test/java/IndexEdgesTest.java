/** The edges that promises 13 to 19 name, and the sentences on ENTRIES, LOGS, ROUNDS and UNITS that they rest on. */
public final class IndexEdgesTest {
    private static final Check CHECK = new Check("index edges");

    public static void main(String[] args) {
        unitsOfWork();
        unitsLeft();
        scanRows();
        scanAsItWas();
        catchingUp();
        shortEdge();
        mostEdge();
        lastRound();
        judged();
        laterEdge();
        laterOfOneCommit();
        laterInStates();
        laterOfOne();
        whatIsPut();
        whatIsLeftOut();
        readyAtOnce();
        entriesOnce();
        takeUp();
        takeUpPastMost();
        giveUp();
        terms();
        termsFromNowOn();
        index();
        indexWhere();
        entryOrder();
        entryEdges();
        entriesOfAllRows();
        logged();
        loggedFull();
        CHECK.close();
    }

    private static void due(String call, int want, int got) {
        CHECK.due(call, want, got);
    }

    /** STATE, how many ENTRIES, NEXT ROW, NOW, LATER, ROUND, SNAP, ENDED BY. */
    private static void told(String want, LateIndex x, int i) {
        CHECK.dueAll("index(" + i + ", ..)", want, x.index(i, 0), x.index(i, 1), x.index(i, 2), x.index(i, 3), x.index(i, 4),
            x.index(i, 5), x.index(i, 6), x.index(i, 15));
    }

    private static Scene.Way building(int i, String text) {
        return x -> Check.build(x, i, text);
    }

    private static Scene.Way working(int i, int n) {
        return x -> x.work(i, n);
    }

    private static void unitsOfWork() {
        CHECK.of("13: n UNITS (1 to 200): one");
        LateIndex x = Scene.after(building(1, "index a"));
        due("work(1, 1)", 1, x.work(1, 1));
        told("1, 0, 1, 0, 0, 0, 0, 0", x, 1);
        CHECK.of("13: n UNITS (1 to 200): 200");
        LateIndex y = Scene.after(building(1, "index a"), Scene.putToLog(120), working(1, 48), z -> z.terms(0, 20));
        Check.commit(y, Check.row(40, 1, 1, 1), Check.row(41, 1, 1, 1));
        due("work(1, 200): 120, the turn, 2, the judgement", 4, y.work(1, 200));
        CHECK.of("13: just n UNITS, not one more");
        LateIndex z = Scene.after(building(1, "index a"), Scene.putToLog(120), w -> w.work(1, 168));
        told("2, 24, -1, 0, 0, 1, -1, 0", z, 1);
        CHECK.dueAll("work", "3, 4", z.work(1, 1), z.work(1, 1));
    }

    private static void unitsLeft() {
        CHECK.of("13: STATE then: (Those left when it comes to one of these are none.): READY");
        LateIndex x = Scene.after(Scene.inState(0, 1));
        CHECK.dueAll("work, far", "4, 0", x.work(0, 200), x.far(0));
        CHECK.of("13: (Those left ..): ALIKE ones");
        LateIndex y = Scene.after(Scene.inState(0, 0), building(0, "index a unique"));
        CHECK.dueAll("work, round", "5, 1", y.work(0, 200), y.index(0, 5));
        CHECK.of("13: (Those left ..): GIVEN UP by ROUND: STATE 0");
        LateIndex z = Scene.after(w -> w.terms(1, 1), building(0, "index a"), working(0, 48), Scene.putToLog(4));
        due("work", 0, z.work(0, 200));
        told("0, 0, -1, 0, 0, 0, -1, 2", z, 0);
    }

    private static void scanRows() {
        CHECK.of("13, Terms: UNITS: 1: NEXT ROW: its ENTRY is ADDED: the first and the last ROW");
        LateIndex x = Scene.after(y -> Check.commit(y, Check.row(0, 5, 0, 0), Check.row(47, 4, 0, 0)), building(0, "index a"));
        told("1, 0, 0, 0, 0, 0, 1, 0", x, 0);
        x.work(0, 1);
        told("1, 1, 1, 0, 0, 0, 1, 0", x, 0);
        x.work(0, 46);
        told("1, 1, 47, 0, 0, 0, 1, 0", x, 0);
        CHECK.of("13, Terms: behind ROW 47 it is CATCHING UP, ROUND 1");
        due("work(0, 1)", 2, x.work(0, 1));
        told("2, 2, -1, 0, 0, 1, -1, 0", x, 0);
        CHECK.of("13, Terms: UNITS of work of an INDEX: none of the other's");
        LateIndex y = Scene.after(building(0, "index a"), building(1, "index b"), working(0, 48), working(1, 5));
        told("2, 0, -1, 0, 0, 1, -1, 0", y, 0);
        told("1, 0, 5, 0, 0, 0, 0, 0", y, 1);
    }

    private static void scanAsItWas() {
        CHECK.of("13, Terms: its ENTRY as it was at SNAP (if there): also behind a sweep");
        LateIndex x = Scene.after(y -> Check.commit(y, Check.row(10, 1, 1, 1), Check.row(11, 2, 2, 2)), building(1, "index a"),
            y -> Check.commit(y, Check.row(10, 9, 9, 9), Check.row(11), Check.row(12, 3, 3, 3)), y -> y.sweep(), working(1, 47));
        CHECK.dueAll("entries", "10, 11", Check.entries(x, 1));
        CHECK.dueAll("keys", "1, 2", x.entry(1, 0, 1), x.entry(1, 1, 1));
        CHECK.of("13, Terms: its ENTRY: only where where holds");
        LateIndex y = Scene.after(z -> Check.commit(z, Check.row(1, 1, 4, 1), Check.row(2, 1, 5, 1), Check.row(3, 1, 6, 1)),
            building(0, "index a where b > 5"), building(1, "index a where b < 5"), working(0, 48), working(1, 48));
        CHECK.dueAll("above", "3", Check.entries(y, 0));
        CHECK.dueAll("below", "1", Check.entries(y, 1));
        CHECK.of("13, Terms: a VERSION of SNAP itself is seen by the scan, one of the next SEQ isn't");
        LateIndex z = Scene.after(Scene.versions(5, 3), building(0, "index a"), Scene.versions(5, 1), working(0, 48));
        CHECK.dueAll("entries, key", "1, 2", z.index(0, 1), z.entry(0, 0, 1));
    }

    private static void catchingUp() {
        CHECK.of("13, Terms: behind ROW 47 NOW has what LATER had");
        LateIndex x = Scene.after(building(0, "index a"), Scene.putToLog(5), working(0, 47));
        told("1, 0, 47, 0, 5, 0, 0, 0", x, 0);
        x.work(0, 1);
        told("2, 0, -1, 5, 0, 1, -1, 0", x, 0);
        CHECK.of("13, Terms: UNITS: 2: the first of NOW is done");
        x.work(0, 1);
        told("2, 1, -1, 4, 0, 1, -1, 0", x, 0);
        CHECK.dueAll("the first is ROW 8", "8, 9", x.entry(0, 0, 0), x.logged(0, 0, 0, 1));
        CHECK.of("13, Terms: a COMMIT puts behind, into LATER, while NOW is done");
        Check.commit(x, Check.row(8));
        told("2, 1, -1, 4, 1, 1, -1, 0", x, 0);
        CHECK.of("13, Terms: 2: if there is none (it costs a UNIT, too)");
        x.work(0, 4);
        told("2, 5, -1, 0, 1, 1, -1, 0", x, 0);
        due("work(0, 1)", 3, x.work(0, 1));
        told("3, 5, -1, 1, 0, 1, -1, 0", x, 0);
    }

    private static void shortEdge() {
        CHECK.of("13, Terms: if LATER has no more than SHORT, LAST ROUND: 3 by SHORT 3");
        Scene.Way scanned = Scene.then(building(0, "index a"), working(0, 48));
        LateIndex x = Scene.after(scanned, Scene.putToLog(3), working(0, 1));
        told("3, 0, -1, 3, 0, 1, -1, 0", x, 0);
        CHECK.of("13, Terms: else ROUND is one more, NOW has what LATER had: 4 by SHORT 3");
        LateIndex y = Scene.after(scanned, Scene.putToLog(4), working(0, 1));
        told("2, 0, -1, 4, 0, 2, -1, 0", y, 0);
        CHECK.of("13, Terms: SHORT 0: none and one");
        LateIndex z = Scene.after(w -> w.terms(0, 0), scanned, working(0, 1));
        told("3, 0, -1, 0, 0, 1, -1, 0", z, 0);
        LateIndex one = Scene.after(w -> w.terms(0, 0), scanned, Scene.putToLog(1), working(0, 1));
        told("2, 0, -1, 1, 0, 2, -1, 0", one, 0);
        CHECK.of("13, Terms: SHORT 20: 20 and 21");
        LateIndex twenty = Scene.after(w -> w.terms(0, 20), scanned, Scene.putToLog(20), working(0, 1));
        told("3, 0, -1, 20, 0, 1, -1, 0", twenty, 0);
        LateIndex more = Scene.after(w -> w.terms(0, 20), scanned, Scene.putToLog(21), working(0, 1));
        told("2, 0, -1, 21, 0, 2, -1, 0", more, 0);
    }

    /** By MOST 1 the first round is the last that may be too long, by MOST 9 the ninth. */
    private static void mostEdge() {
        for (int most : new int[] {1, 2, 5, 9}) {
            CHECK.of("13, Terms: if ROUND is MOST or more, it is GIVEN UP (2): MOST " + most);
            LateIndex x = Scene.after(y -> y.terms(1, most), y -> y.terms(0, 0), building(1, "index a"), working(1, 48));
            for (int round = 1; round <= most; round++) {
                due("round", round, x.index(1, 5));
                Check.commit(x, Check.row(round, 1, 1, 1));
                due("work(1, 1)", round < most ? 2 : 0, x.work(1, 1));
                if (round < most) {
                    due("the first of NOW", 2, x.work(1, 1));
                }
            }
            told("0, 0, -1, 0, 0, 0, -1, 2", x, 1);
        }
        CHECK.of("13, Terms: a LATER that is short is no matter of MOST");
        LateIndex x = Scene.after(y -> y.terms(1, 1), building(1, "index a"), working(1, 48), Scene.putToLog(3));
        due("work(1, 1)", 3, x.work(1, 1));
    }

    private static void lastRound() {
        CHECK.of("13, Terms: UNITS: 3: the first of NOW is done");
        LateIndex x = Scene.after(building(0, "index a"), working(0, 48), Scene.putToLog(3), working(0, 2));
        told("3, 1, -1, 2, 0, 1, -1, 0", x, 0);
        CHECK.of("13, Terms: 3: without any it is JUDGED, by a UNIT of its own");
        due("work(0, 2)", 3, x.work(0, 2));
        told("3, 3, -1, 0, 0, 1, -1, 0", x, 0);
        due("work(0, 1)", 4, x.work(0, 1));
        told("4, 3, -1, 0, 0, 1, -1, 0", x, 0);
    }

    private static void judged() {
        Scene.Way rows = x -> Check.commit(x, Check.row(0, 1, 5, 0), Check.row(46, 2, 5, 1), Check.row(47, 3, 5, 1));
        String[] texts = {"index a unique", "index b", "index b unique", "index b, a unique", "index c desc, b unique",
            "index b unique where c < 1", "index b unique where a ! 2", "index c unique where a = 9"};
        int[] states = {4, 4, 5, 4, 5, 4, 5, 4};
        for (int k = 0; k < texts.length; k++) {
            CHECK.of("13, Terms: JUDGED: if it is unique and two ENTRIES have one KEY: ALIKE ones (5), else READY: " + texts[k]);
            LateIndex x = Scene.after(rows, building(1, texts[k]));
            due("work(1, 50)", states[k], x.work(1, 50));
        }
        CHECK.of("13, Terms: JUDGED by the ENTRIES then, not by those on the way");
        LateIndex x = Scene.after(rows, building(1, "index b unique"), y -> Check.commit(y, Check.row(46), Check.row(0, 1, 4, 0)));
        CHECK.dueAll("work", "2, 4", x.work(1, 48), x.work(1, 200));
    }

    private static void laterEdge() {
        CHECK.of("Terms: LATER: 120 aren't too many");
        LateIndex x = Scene.after(building(0, "index a"), Scene.putToLog(120));
        told("1, 0, 0, 0, 120, 0, 0, 0", x, 0);
        CHECK.of("Terms: nor is a COMMIT that puts nothing then");
        Check.commit(x, Check.row(24, 18, 5, 5));
        told("1, 0, 0, 0, 120, 0, 0, 0", x, 0);
        CHECK.of("Terms: If LATER would have more than 120, the INDEX is GIVEN UP (3) in place of that (the COMMIT goes on)");
        LateIndex y = Scene.after(building(0, "index a"), building(1, "index b where b > 90"), Scene.putToLog(120));
        due("commit", 10, Check.commit(y, Check.row(40, 1, 99, 1)));
        told("0, 0, -1, 0, 0, 0, -1, 3", y, 0);
        CHECK.dueAll("row 40, seq", "1, 10", y.see(-1, 40, 0), y.count(1));
        CHECK.of("Terms: GIVEN UP (3): the other INDEX isn't");
        told("1, 0, 0, 0, 1, 0, 0, 0", y, 1);
        CHECK.of("Terms: GIVEN UP: no DEFINITION");
        due("columns", 0, y.index(0, 8));
    }

    private static void laterOfOneCommit() {
        CHECK.of("Terms: LATER: 119 and a COMMIT that puts two: one would still go");
        LateIndex x = Scene.after(building(0, "index a"), Scene.putToLog(119));
        told("1, 0, 0, 0, 119, 0, 0, 0", x, 0);
        x.image(0);
        Check.commit(x, Check.row(8, 99, 0, 0));
        told("0, 0, -1, 0, 0, 0, -1, 3", x, 0);
        x.restore(0);
        Check.commit(x, Check.row(8));
        told("1, 0, 0, 0, 120, 0, 0, 0", x, 0);
        CHECK.of("Terms: LATER: 104 and sixteen by one COMMIT, 105 and sixteen");
        LateIndex y = Scene.after(building(0, "index a"), Scene.putToLog(104));
        y.image(0);
        eightChange(y);
        told("1, 0, 0, 0, 120, 0, 0, 0", y, 0);
        y.restore(0);
        Check.commit(y, Check.row(40, 1, 1, 1));
        eightChange(y);
        told("0, 0, -1, 0, 0, 0, -1, 3", y, 0);
        due("the COMMIT went on", 98, y.see(-1, 15, 1));
    }

    private static void eightChange(LateIndex x) {
        int[][] rows = new int[8][];
        for (int k = 0; k < 8; k++) {
            rows[k] = Check.row(8 + k, 98, 0, 0);
        }
        Check.commit(x, rows);
    }

    private static void laterInStates() {
        CHECK.of("Terms: LATER of an INDEX that is CATCHING UP: 120 and one more, whatever NOW has");
        LateIndex x = Scene.after(building(0, "index a"), y -> Check.commit(y, Check.row(40, 1, 1, 1)), working(0, 48),
            Scene.putToLog(120));
        told("2, 0, -1, 1, 120, 1, -1, 0", x, 0);
        Check.commit(x, Check.row(41, 1, 1, 1));
        told("0, 0, -1, 0, 0, 0, -1, 3", x, 0);
        CHECK.of("Terms: LATER of an INDEX of ALIKE ones: 120 and one more");
        LateIndex y = Scene.after(Scene.inState(0, 5), Scene.putToLog(120));
        told("5, 3, -1, 0, 120, 1, -1, 0", y, 0);
        Check.commit(y, Check.row(41, 1, 1, 1));
        told("0, 0, -1, 0, 0, 0, -1, 3", y, 0);
        CHECK.of("Terms: 120 and all of them done");
        LateIndex z = Scene.after(building(0, "index a"), Scene.putToLog(120), working(0, 47));
        CHECK.dueAll("work, now, later", "2, 120, 0", z.work(0, 1), z.index(0, 3), z.index(0, 4));
        Check.commit(z, Check.row(41, 1, 1, 1));
        CHECK.dueAll("work, far", "4, 0", z.work(0, 123), z.far(0));
        CHECK.of("Terms: a READY INDEX has no LATER that could be too long");
        LateIndex ready = Scene.after(building(1, "index a"), working(1, 200), Scene.putToLog(120));
        Check.commit(ready, Check.row(41, 1, 1, 1));
        told("4, 25, -1, 0, 0, 1, -1, 0", ready, 1);
    }

    private static void laterOfOne() {
        CHECK.of("Terms: A COMMIT puts by each ROW of its WRITES, rising: TAKE, then ADD");
        LateIndex x = Scene.after(y -> Check.commit(y, Check.row(47, 1, 1, 1), Check.row(0, 2, 2, 2), Check.row(20, 3, 3, 3)),
            building(1, "index a"));
        Check.commit(x, Check.row(47, 4, 4, 4), Check.row(20), Check.row(30, 5, 5, 5), Check.row(0, 6, 6, 6));
        int[] want = {0, 0, 2, 1, 0, 6, 0, 20, 3, 1, 30, 5, 0, 47, 1, 1, 47, 4};
        for (int k = 0; k < 6; k++) {
            CHECK.dueAll("logged " + k, want[3 * k] + ", " + want[3 * k + 1] + ", " + want[3 * k + 2], x.logged(1, 1, k, 0),
                x.logged(1, 1, k, 1), x.logged(1, 1, k, 2));
        }
        due("no more", 6, x.index(1, 4));
        CHECK.of("Terms: the ENTRY that the ROW had in THE TABLE ahead of it, not at SNAP");
        Check.commit(x, Check.row(0, 7, 7, 7));
        CHECK.dueAll("take, add", "0, 6, 1, 7", x.logged(1, 1, 6, 0), x.logged(1, 1, 6, 2), x.logged(1, 1, 7, 0), x.logged(1, 1, 7, 2));
    }

    private static void whatIsPut() {
        for (int state = 0; state <= 5; state++) {
            CHECK.of("Terms: A COMMIT puts (STATES 1, 2, 5: into LATER; 4: it is done at once): STATE " + state);
            LateIndex x = Scene.after(Scene.inState(1, state));
            int entries = x.index(1, 1);
            Check.commit(x, Check.row(30, 9, 9, 9));
            boolean later = state == 1 || state == 2 || state == 5;
            CHECK.dueAll("later, more entries, now", (later ? 1 : 0) + ", " + (state == 4 ? 1 : 0) + ", 0", x.index(1, 4),
                x.index(1, 1) - entries, x.index(1, 3));
        }
        CHECK.of("Terms: one that isn't done puts nothing: CONFLICT");
        LateIndex x = Scene.after(Scene.inState(1, 2), y -> y.begin(0), y -> y.put(0, 0, 7, 7, 7), y -> y.put(0, 40, 7, 7, 7));
        Check.commit(x, Check.row(0, 8, 8, 8));
        CHECK.dueAll("commit, later", "0, 2", x.commit(0), x.index(1, 4));
        CHECK.of("Terms: one that isn't done puts nothing: ALIKE of the other INDEX");
        LateIndex y = Scene.after(Scene.inState(1, 2), z -> Check.ready(z, 0, "index c unique"));
        CHECK.dueAll("commit, why, later", "0, 3, 0", Check.commit(y, Check.row(9, 9, 9, 3)), y.why(), y.index(1, 4));
        CHECK.of("Terms: what is written and rolled puts nothing");
        LateIndex z = Scene.after(Scene.inState(1, 2), w -> w.begin(0), w -> w.put(0, 0, 7, 7, 7), w -> w.roll(0));
        due("later", 0, z.index(1, 4));
    }

    private static void whatIsLeftOut() {
        CHECK.of("Terms: (.. neither, if both would be of one KEY): other COLUMNS change");
        LateIndex x = Scene.after(y -> Check.commit(y, Check.row(3, 1, 2, 3), Check.row(4, 5, 6, 50)),
            building(0, "index a, b desc where c < 10"));
        Check.commit(x, Check.row(3, 1, 2, 9));
        due("later", 0, x.index(0, 4));
        CHECK.of("Terms: both, if a KEY changes in its last COLUMN");
        Check.commit(x, Check.row(3, 1, 3, 9));
        due("later", 2, x.index(0, 4));
        CHECK.of("Terms: (each if it is there and where holds): ADD alone, TAKE alone, neither");
        Check.commit(x, Check.row(4, 5, 6, 9));
        CHECK.dueAll("where comes to hold", "3, 1, 4", x.index(0, 4), x.logged(0, 1, 2, 0), x.logged(0, 1, 2, 1));
        Check.commit(x, Check.row(4, 5, 6, 10));
        CHECK.dueAll("where holds no more", "4, 0, 4", x.index(0, 4), x.logged(0, 1, 3, 0), x.logged(0, 1, 3, 1));
        Check.commit(x, Check.row(4, 8, 8, 10));
        due("where holds neither then nor now", 4, x.index(0, 4));
        Check.commit(x, Check.row(3));
        CHECK.dueAll("erased", "5, 0, 3", x.index(0, 4), x.logged(0, 1, 4, 0), x.logged(0, 1, 4, 1));
        Check.commit(x, Check.row(3), Check.row(40));
        due("erased again, never there", 5, x.index(0, 4));
        Check.commit(x, Check.row(3, 1, 3, 9));
        CHECK.dueAll("there again", "6, 1, 3", x.index(0, 4), x.logged(0, 1, 5, 0), x.logged(0, 1, 5, 1));
    }

    private static void readyAtOnce() {
        CHECK.of("Terms: 4: it is done at once: kept true from then on");
        LateIndex x = Scene.after(building(0, "index a desc where b > 4"), working(0, 200));
        Check.commit(x, Check.row(0, 1, 5, 0), Check.row(47, 2, 5, 0), Check.row(9, 3, 4, 0));
        CHECK.dueAll("added", "47, 0", Check.entries(x, 0));
        Check.commit(x, Check.row(0, 9, 5, 0), Check.row(47, 2, 4, 0), Check.row(9, 3, 9, 9));
        CHECK.dueAll("changed, taken, added", "0, 9", Check.entries(x, 0));
        Check.commit(x, Check.row(0), Check.row(9));
        CHECK.dueAll("none, far, state", "0, 0, 4", x.index(0, 1), x.far(0), x.index(0, 0));
    }

    /** What the scan ADDED at SNAP comes to be taken and added again by the log. */
    private static void entriesOnce() {
        CHECK.of("Terms: ENTRIES: none twice: a ROW taken and added again with the KEY that it had");
        LateIndex x = Scene.after(y -> Check.commit(y, Check.row(5, 1, 1, 1)), building(0, "index a"));
        Check.commit(x, Check.row(5, 2, 2, 2));
        Check.commit(x, Check.row(5, 1, 3, 3));
        x.work(0, 48);
        due("entries", 1, x.index(0, 1));
        int[] want = {0, 1, 0, 1};
        for (int k = 0; k < 4; k++) {
            x.work(0, 1);
            due("entries behind " + (k + 1), want[k], x.index(0, 1));
        }
        CHECK.dueAll("its key, far", "1, 0", x.entry(0, 0, 1), x.far(0));
    }

    private static void takeUp() {
        CHECK.of("14, Terms: TAKEN UP again (5): CATCHING UP, ROUND is one more, NOW has what LATER had: nothing");
        LateIndex x = Scene.after(Scene.inState(0, 5));
        due("takeUp(0)", 2, x.takeUp(0));
        told("2, 3, -1, 0, 0, 2, -1, 0", x, 0);
        due("not mended: alike again", 5, x.work(0, 2));
        told("5, 3, -1, 0, 0, 2, -1, 0", x, 0);
        CHECK.of("14, Terms: TAKEN UP again: NOW has what LATER had: 120");
        LateIndex y = Scene.after(Scene.inState(0, 5), Scene.putToLog(120));
        due("takeUp(0)", 2, y.takeUp(0));
        told("2, 3, -1, 120, 0, 2, -1, 0", y, 0);
        CHECK.of("14: taken up again when they are mended: READY, unique from then on");
        LateIndex z = Scene.after(Scene.inState(1, 5), w -> Check.commit(w, Check.row(1, 1, 3, 4)));
        CHECK.dueAll("takeUp, work, far", "2, 4, 0", z.takeUp(1), z.work(1, 4), z.far(1));
        CHECK.dueAll("one alike", "0, 3", Check.commit(z, Check.row(1, 1, 2, 4)), z.why());
    }

    private static void takeUpPastMost() {
        CHECK.of("14, Terms: ROUND is one more (whatever MOST is): past 1, past 9");
        LateIndex x = Scene.after(Scene.inState(0, 5), y -> y.terms(1, 1));
        for (int round = 2; round <= 12; round++) {
            CHECK.dueAll("takeUp, round, work", round + ", " + round + ", 5", x.takeUp(0), x.index(0, 5), x.work(0, 200));
        }
        CHECK.of("14, Terms: ROUND above MOST: a LATER that is too long then: GIVEN UP (2)");
        x.takeUp(0);
        Check.commit(x, Check.row(30, 1, 1, 1), Check.row(31, 1, 1, 1), Check.row(32, 1, 1, 1), Check.row(33, 1, 1, 1));
        due("work(0, 1)", 0, x.work(0, 1));
        told("0, 0, -1, 0, 0, 0, -1, 2", x, 0);
    }

    private static void giveUp() {
        for (int state = 1; state <= 5; state++) {
            CHECK.of("15: GIVEN UP by hand: STATE it had: " + state);
            LateIndex x = Scene.after(Scene.inState(1, state), y -> Check.commit(y, Check.row(40, 1, 1, 1)));
            due("giveUp(1)", state, x.giveUp(1));
            CHECK.of("15, Terms: GIVEN UP: STATE 0, no ENTRIES, LOGS, DEFINITION; ENDED BY 1: of STATE " + state);
            told("0, 0, -1, 0, 0, 0, -1, 1", x, 1);
            for (int what = 7; what < 15; what++) {
                due("index(1, " + what + ")", what >= 9 && what <= 12 ? -1 : 0, x.index(1, what));
            }
            CHECK.dueAll("entry, logged", "-1, -1, -1", x.entry(1, 0, 0), x.logged(1, 0, 0, 0), x.logged(1, 1, 0, 0));
        }
        CHECK.of("15, Terms: GIVEN UP: no DEFINITION: neither unique nor where");
        LateIndex told = Scene.after(building(0, "index b desc, c unique where c > 98"), y -> y.giveUp(0));
        for (int what = 7; what < 15; what++) {
            due("index(0, " + what + ")", what >= 9 && what <= 12 ? -1 : 0, told.index(0, what));
        }
        CHECK.of("15: given up without trace: a COMMIT puts nothing, nobody waits");
        LateIndex x = Scene.after(Scene.inState(1, 3), y -> y.giveUp(1));
        CHECK.dueAll("count(4), commit, entries, later", "0, 2, 0, 0", x.count(4), Check.commit(x, Check.row(9, 1, 1, 1)), x.index(1, 1),
            x.index(1, 4));
        CHECK.of("15: the other INDEX stays");
        LateIndex y = Scene.after(Scene.inState(0, 4), Scene.inState(1, 4), z -> z.giveUp(0));
        CHECK.dueAll("states, entries", "0, 4, 3", y.index(0, 0), y.index(1, 0), y.index(1, 1));
    }

    private static void terms() {
        CHECK.of("16: A TERM: what it was: 0 SHORT 0 to 20 (3)");
        LateIndex x = new LateIndex();
        CHECK.dueAll("terms(0, ..)", "3, 0, 20, 0", x.terms(0, 0), x.terms(0, 20), x.terms(0, 0), x.terms(0, 0));
        CHECK.dueAll("count(7), count(8)", "0, 5", x.count(7), x.count(8));
        CHECK.of("16: A TERM: what it was: 1 MOST 1 to 9 (5)");
        LateIndex y = new LateIndex();
        CHECK.dueAll("terms(1, ..)", "5, 1, 9, 9", y.terms(1, 1), y.terms(1, 9), y.terms(1, 9), y.terms(1, 5));
        y.terms(1, 9);
        CHECK.dueAll("count(7), count(8)", "3, 9", y.count(7), y.count(8));
    }

    private static void termsFromNowOn() {
        CHECK.of("16: A TERM, told while an INDEX is under way, is that from then on: SHORT");
        LateIndex x = Scene.after(building(0, "index a"), working(0, 48), Scene.putToLog(4), y -> y.terms(0, 4));
        due("work(0, 1)", 3, x.work(0, 1));
        CHECK.of("16: A TERM, told while an INDEX is under way, is that from then on: MOST");
        LateIndex y = Scene.after(building(0, "index a"), working(0, 48), Scene.putToLog(4), z -> z.terms(1, 1));
        due("work(0, 1)", 0, y.work(0, 1));
    }

    private static void index() {
        CHECK.of("17: (STATE 0: all 0, but NONE where it is told, and 15)");
        LateIndex x = new LateIndex();
        for (int what = 0; what < 16; what++) {
            boolean none = what == 2 || what == 6 || (what >= 9 && what <= 12);
            CHECK.dueAll("index(.., " + what + ")", none ? "-1, -1" : "0, 0", x.index(0, what), x.index(1, what));
        }
        for (int state = 1; state <= 5; state++) {
            CHECK.of("17: what 2 NEXT ROW, 6 SNAP (NONE: no SCAN): STATE " + state);
            LateIndex y = Scene.after(Scene.inState(0, state));
            CHECK.dueAll("state, next row, snap", state + (state == 1 ? ", 1, 1" : ", -1, -1"), y.index(0, 0), y.index(0, 2),
                y.index(0, 6));
            CHECK.of("17: what 7 1 if it is unique, 8 how many COLUMNS, 9 to 11 the COLUMNS (NONE): STATE " + state);
            CHECK.dueAll("index", (state == 5 ? 1 : 0) + ", 2, 0, 1, -1", y.index(0, 7), y.index(0, 8), y.index(0, 9), y.index(0, 10),
                y.index(0, 11));
        }
        CHECK.of("17: what 1 how many ENTRIES: all 48");
        LateIndex y = Scene.after(Scene::everyRow, building(1, "index c"), working(1, 200));
        due("index(1, 1)", 48, y.index(1, 1));
    }

    private static void indexWhere() {
        CHECK.of("17: 9 to 11 the COLUMNS (0 to 2; 10 more by desc)");
        LateIndex x = Scene.after(building(0, "index c desc, a, b desc unique where a < 0"), building(1, "index a desc where b ! 99"));
        CHECK.dueAll("index(0, ..)", "1, 3, 12, 0, 11", x.index(0, 7), x.index(0, 8), x.index(0, 9), x.index(0, 10), x.index(0, 11));
        CHECK.dueAll("index(1, ..)", "0, 1, 10, -1, -1", x.index(1, 7), x.index(1, 8), x.index(1, 9), x.index(1, 10), x.index(1, 11));
        CHECK.of("17: 12 COLUMN of where (NONE), 13 OP, 14 its NUMBER");
        CHECK.dueAll("both", "0, 2, 0, 1, 1, 99", x.index(0, 12), x.index(0, 13), x.index(0, 14), x.index(1, 12), x.index(1, 13),
            x.index(1, 14));
        CHECK.of("17: (both 0 without)");
        LateIndex y = Scene.after(building(0, "index a where c > 9"), z -> z.giveUp(0), building(0, "index b"));
        CHECK.dueAll("index", "-1, 0, 0", y.index(0, 12), y.index(0, 13), y.index(0, 14));
    }

    private static void entryOrder() {
        CHECK.of("18, Terms: ENTRIES: rising: COLUMN by COLUMN (the greater first by desc), then by ROWS: 0 and 99");
        Scene.Way rows = x -> Check.commit(x, Check.row(47, 0, 99, 0), Check.row(0, 99, 0, 1), Check.row(20, 0, 0, 2),
            Check.row(21, 99, 99, 3), Check.row(22, 0, 0, 4), Check.row(23, 99, 0, 5));
        String[] texts = {"index a", "index a desc", "index a, b", "index a, b desc", "index a desc, b", "index b desc, a desc",
            "index b, c desc", "index a where b = 99"};
        String[] wants = {"20, 22, 47, 0, 21, 23", "0, 21, 23, 20, 22, 47", "20, 22, 47, 0, 23, 21", "47, 20, 22, 21, 0, 23",
            "0, 23, 21, 20, 22, 47", "21, 47, 0, 23, 20, 22", "23, 22, 20, 0, 21, 47", "47, 21"};
        for (int k = 0; k < texts.length; k++) {
            LateIndex x = Scene.after(rows, building(0, texts[k]), working(0, 200));
            CHECK.dueAll(texts[k], wants[k], Check.entries(x, 0));
        }
        CHECK.of("18: 1 to 3 its KEY, COLUMN by COLUMN (NONE: not so many)");
        LateIndex x = Scene.after(rows, building(0, "index b desc, a"), building(1, "index c desc, b desc, a"), working(0, 200),
            working(1, 200));
        CHECK.dueAll("the first of two COLUMNS", "47, 99, 0, -1", x.entry(0, 0, 0), x.entry(0, 0, 1), x.entry(0, 0, 2), x.entry(0, 0, 3));
        CHECK.dueAll("the first of three COLUMNS", "23, 5, 0, 99", x.entry(1, 0, 0), x.entry(1, 0, 1), x.entry(1, 0, 2), x.entry(1, 0, 3));
    }

    private static void entryEdges() {
        CHECK.of("18: NONE: not so many ENTRIES: the last and one behind it");
        LateIndex x = Scene.after(Scene.inState(0, 4));
        CHECK.dueAll("entry", "2, -1, -1", x.entry(0, 2, 0), x.entry(0, 3, 0), x.entry(0, Integer.MAX_VALUE, 0));
        CHECK.of("18: NONE: not so many ENTRIES: none at all, no INDEX");
        LateIndex y = Scene.after(building(0, "index a"));
        CHECK.dueAll("entry", "-1, -1, -1, -1", y.entry(0, 0, 0), y.entry(0, 0, 3), y.entry(1, 0, 0), y.entry(1, 47, 1));
        CHECK.of("18: NONE: not so many ENTRIES: those that were taken");
        Check.commit(x, Check.row(2));
        CHECK.dueAll("entry", "1, -1, -1", x.entry(0, 1, 0), x.entry(0, 2, 0), x.entry(0, 2, 1));
    }

    private static void entriesOfAllRows() {
        CHECK.of("18: ENTRY k: all 48, up and down");
        LateIndex x = Scene.after(Scene::everyRow, building(0, "index a desc"), building(1, "index c"), working(0, 200), working(1, 200));
        for (int k = 0; k < 48; k++) {
            CHECK.dueAll("entry " + k, (47 - k) + ", " + (47 - k) + ", " + k, x.entry(0, k, 0), x.entry(0, k, 1), x.entry(1, k, 0));
        }
        due("no 49th", -1, x.entry(0, 48, 0));
        CHECK.of("18: with all 48 there, the first is taken and comes last");
        Check.commit(x, Check.row(0, 50, 1, 8), Check.row(47, 0, 1, 1));
        CHECK.dueAll("entries", "0, 47, 47, 0, 48, 48", x.entry(0, 0, 0), x.entry(0, 47, 0), x.entry(1, 0, 0), x.entry(1, 47, 0),
            x.index(0, 1), x.index(1, 1));
    }

    private static void logged() {
        CHECK.of("19: what 0: 0 TAKE, 1 ADD, 1: the ROW, 2 to 4 its KEY (NONE: not so many)");
        LateIndex x = Scene.after(Scene.inState(0, 0), building(0, "index c desc, b, a desc"), building(1, "index b desc"));
        Check.commit(x, Check.row(0, 99, 0, 99));
        CHECK.dueAll("take", "0, 0, 3, 2, 1", x.logged(0, 1, 0, 0), x.logged(0, 1, 0, 1), x.logged(0, 1, 0, 2), x.logged(0, 1, 0, 3),
            x.logged(0, 1, 0, 4));
        CHECK.dueAll("add", "1, 0, 99, 0, 99", x.logged(0, 1, 1, 0), x.logged(0, 1, 1, 1), x.logged(0, 1, 1, 2), x.logged(0, 1, 1, 3),
            x.logged(0, 1, 1, 4));
        CHECK.dueAll("of one COLUMN", "1, 0, 0, -1, -1", x.logged(1, 1, 1, 0), x.logged(1, 1, 1, 1), x.logged(1, 1, 1, 2),
            x.logged(1, 1, 1, 3), x.logged(1, 1, 1, 4));
        CHECK.of("19: The k-th of NOW (which 0), LATER (1): each its own");
        x.work(0, 48);
        Check.commit(x, Check.row(47, 5, 5, 5));
        CHECK.dueAll("now, later", "0, 0, 1, 47, 2, 1", x.logged(0, 0, 0, 0), x.logged(0, 0, 0, 1), x.logged(0, 1, 0, 0),
            x.logged(0, 1, 0, 1), x.index(0, 3), x.index(0, 4));
        CHECK.of("19: NONE: not so many: the last and one behind it");
        CHECK.dueAll("now", "0, -1, -1", x.logged(0, 0, 1, 1), x.logged(0, 0, 2, 1), x.logged(0, 0, Integer.MAX_VALUE, 0));
        CHECK.dueAll("later", "47, -1, -1", x.logged(0, 1, 0, 1), x.logged(0, 1, 1, 1), x.logged(0, 1, Integer.MAX_VALUE, 4));
        CHECK.of("19: the first that is done is gone from NOW: the next is the 0th");
        x.work(0, 1);
        CHECK.dueAll("now", "1, 1, -1, -1", x.index(0, 3), x.logged(0, 0, 0, 0), x.logged(0, 0, 1, 0), x.logged(0, 0, 1, 1));
        CHECK.of("19: NONE: no INDEX, a READY one");
        LateIndex y = Scene.after(Scene.inState(1, 4));
        CHECK.dueAll("logged", "-1, -1, -1, -1", y.logged(0, 0, 0, 0), y.logged(0, 1, 0, 4), y.logged(1, 0, 0, 0), y.logged(1, 1, 0, 0));
    }

    private static void loggedFull() {
        CHECK.of("19: the 120th of LATER, of NOW, and one behind it");
        LateIndex x = Scene.after(building(1, "index a"), Scene.putToLog(120));
        CHECK.dueAll("later", "1, 31, 18, -1", x.logged(1, 1, 119, 0), x.logged(1, 1, 119, 1), x.logged(1, 1, 119, 2),
            x.logged(1, 1, 120, 0));
        x.work(1, 48);
        CHECK.dueAll("now", "1, 31, 18, -1", x.logged(1, 0, 119, 0), x.logged(1, 0, 119, 1), x.logged(1, 0, 119, 2), x.logged(1, 0, 120, 0));
        CHECK.of("19: NOW, a part of it done, undone and restored");
        x.work(1, 100);
        CHECK.dueAll("now", "20, 31, -1", x.index(1, 3), x.logged(1, 0, 19, 1), x.logged(1, 0, 20, 1));
        int first = x.logged(1, 0, 0, 1);
        x.image(0);
        x.work(1, 19);
        CHECK.dueAll("the last alone", "1, 31", x.index(1, 3), x.logged(1, 0, 0, 1));
        x.undo(1);
        CHECK.dueAll("undone", "20, " + first + ", 31, -1", x.index(1, 3), x.logged(1, 0, 0, 1), x.logged(1, 0, 19, 1),
            x.logged(1, 0, 20, 1));
        x.work(1, 60);
        x.restore(0);
        CHECK.dueAll("restored", "20, " + first + ", 31, -1", x.index(1, 3), x.logged(1, 0, 0, 1), x.logged(1, 0, 19, 1),
            x.logged(1, 0, 20, 1));
        CHECK.dueAll("to its end", "4, 0", x.work(1, 200), x.far(1));
    }
}
