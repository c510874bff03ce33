/** Promises 11 and 13 to 19: builds, their work and what is told of them. */
public final class IndexesTest {
    private static final Check CHECK = new Check("indexes");

    public static void main(String[] args) {
        work();
        scanBySnapshot();
        rounds();
        givenUpByRound();
        givenUpByLater();
        takeUp();
        giveUp();
        terms();
        index();
        entry();
        logged();
        logLeavesOutWhatStays();
        keptTrue();
        twoIndexes();
        CHECK.close();
    }

    private static void due(String call, int want, int got) {
        CHECK.due(call, want, got);
    }

    private static int[] told(LateIndex x, int i) {
        int[] told = new int[7];
        for (int k = 0; k < 7; k++) {
            told[k] = x.index(i, k);
        }
        return told;
    }

    private static void work() {
        LateIndex x = new LateIndex();
        due("index", -2, x.work(2, 1));
        due("n ahead of state", -3, x.work(0, 201));
        due("n", -3, x.work(0, 0));
        due("state 0", -5, x.work(0, 200));
        Check.build(x, 0, "index a");
        due("47 rows", 1, x.work(0, 47));
        CHECK.dueAll("one is left", "1, 0, 47, 0, 0, 0, 0", told(x, 0));
        due("the last row", 2, x.work(0, 1));
        CHECK.dueAll("round 1", "2, 0, -1, 0, 0, 1, -1", told(x, 0));
        due("nothing in now costs a unit", 3, x.work(0, 1));
        CHECK.dueAll("last round", "3, 0, -1, 0, 0, 1, -1", told(x, 0));
        due("judged", 4, x.work(0, 1));
        due("ready", -5, x.work(0, 1));
        Check.build(x, 1, "index b");
        due("those left are none", 4, x.work(1, 200));
    }

    private static void scanBySnapshot() {
        LateIndex x = new LateIndex();
        Check.commit(x, Check.row(0, 5, 0, 0), Check.row(1, 4, 0, 0), Check.row(47, 3, 0, 0));
        Check.build(x, 0, "index a");
        Check.commit(x, Check.row(0, 1, 0, 0), Check.row(1), Check.row(20, 9, 0, 0));
        x.work(0, 47);
        CHECK.dueAll("as it was", "1, 0", Check.entries(x, 0));
        x.work(0, 1);
        CHECK.dueAll("as it was", "47, 1, 0", Check.entries(x, 0));
        due("old key", 5, x.entry(0, 2, 1));
        due("now", 4, x.index(0, 3));
        x.work(0, 1);
        CHECK.dueAll("one taken", "47, 1", Check.entries(x, 0));
        x.work(0, 1);
        CHECK.dueAll("one added", "0, 47, 1", Check.entries(x, 0));
        x.work(0, 2);
        CHECK.dueAll("as it is", "0, 47, 20", Check.entries(x, 0));
        due("still catching up", 2, x.index(0, 0));
    }

    private static void change(LateIndex x, int from, int many, int a) {
        int[][] rows = new int[many][];
        for (int k = 0; k < many; k++) {
            rows[k] = Check.row(from + k, a, k, 0);
        }
        Check.commit(x, rows);
    }

    private static void rounds() {
        LateIndex x = new LateIndex();
        Check.build(x, 0, "index a");
        x.work(0, 48);
        change(x, 0, 4, 1);
        due("later is longer than short", 2, x.work(0, 1));
        CHECK.dueAll("round 2", "2, 0, -1, 4, 0, 2, -1", told(x, 0));
        change(x, 10, 3, 1);
        due("three are left", 2, x.work(0, 4));
        CHECK.dueAll("now is empty", "2, 4, -1, 0, 3, 2, -1", told(x, 0));
        due("no longer than short", 3, x.work(0, 1));
        CHECK.dueAll("last round", "3, 4, -1, 3, 0, 2, -1", told(x, 0));
        due("three and the judgement", 3, x.work(0, 3));
        due("three and the judgement", 4, x.work(0, 1));
        CHECK.dueAll("ready", "4, 7, -1, 0, 0, 2, -1", told(x, 0));
    }

    private static void givenUpByRound() {
        LateIndex x = new LateIndex();
        x.terms(0, 0);
        x.terms(1, 2);
        Check.build(x, 1, "index a unique where c = 0");
        x.work(1, 48);
        change(x, 0, 1, 1);
        due("round 2", 2, x.work(1, 1));
        change(x, 0, 1, 2);
        due("the first of now", 2, x.work(1, 1));
        due("given up", 0, x.work(1, 100));
        due("by round", 2, x.index(1, 15));
        CHECK.dueAll("nothing is left", "0, 0, -1, 0, 0, 0, -1", told(x, 1));
        for (int what = 7; what < 15; what++) {
            due("definition " + what, what >= 9 && what <= 12 ? -1 : 0, x.index(1, what));
        }
        due("a commit goes on", 3, Check.commit(x, Check.row(5, 1, 1, 1)));
        due("nothing comes", 0, x.index(1, 1));
    }

    private static void givenUpByLater() {
        LateIndex x = new LateIndex();
        Check.build(x, 0, "index a");
        Check.build(x, 1, "index b where b > 98");
        for (int k = 0; k < 7; k++) {
            change(x, 0, 8, k);
            if (k % 4 == 3) {
                x.sweep();
            }
        }
        due("8 and 6 times 16", 104, x.index(0, 4));
        change(x, 0, 8, 50);
        due("120 are not too many", 120, x.index(0, 4));
        due("a key that stays puts nothing", 9, Check.commit(x, Check.row(0, 50, 7, 7)));
        due("still", 1, x.index(0, 0));
        x.image(0);
        due("one more", 10, Check.commit(x, Check.row(40, 1, 1, 1)));
        due("given up", 0, x.index(0, 0));
        due("by later", 3, x.index(0, 15));
        due("no log", 0, x.index(0, 4));
        due("the commit went on", 1, x.see(-1, 40, 1));
        due("the other", 1, x.index(1, 0));
        x.undo(1);
        due("undone", 120, x.index(0, 4));
        x.restore(0);
        x.work(0, 48);
        due("now has all", 120, x.index(0, 3));
        due("no later", 0, x.index(0, 4));
        due("ready", 4, x.work(0, 122));
        due("far", 0, x.far(0));
    }

    private static void takeUp() {
        LateIndex x = new LateIndex();
        due("index", -2, x.takeUp(2));
        due("state 0", -5, x.takeUp(0));
        Check.commit(x, Check.row(0, 1, 0, 0), Check.row(1, 1, 0, 0));
        x.terms(1, 1);
        Check.build(x, 0, "index a unique");
        due("scan", -5, x.takeUp(0));
        due("alike ones", 5, x.work(0, 50));
        due("round", 1, x.index(0, 5));
        due("no work now", -5, x.work(0, 1));
        Check.commit(x, Check.row(1, 2, 0, 0));
        due("into later", 2, x.index(0, 4));
        due("no commit waits", 0, x.count(4));
        due("round 2, whatever most is", 2, x.takeUp(0));
        CHECK.dueAll("catching up", "2, 2, -1, 2, 0, 2, -1", told(x, 0));
        due("ready", 4, x.work(0, 4));
        due("ready", -5, x.takeUp(0));
        LateIndex y = new LateIndex();
        Check.commit(y, Check.row(0, 1, 0, 0), Check.row(1, 1, 0, 0));
        Check.ready(y, 1, "index a unique");
        due("not mended", 2, y.takeUp(1));
        due("alike again", 5, y.work(1, 200));
        due("once more", 3, y.takeUp(1));
    }

    private static void giveUp() {
        LateIndex x = new LateIndex();
        due("index", -2, x.giveUp(-1));
        due("state 0", -5, x.giveUp(1));
        Check.commit(x, Check.row(0, 1, 0, 0), Check.row(1, 1, 0, 0));
        Check.build(x, 1, "index a unique where b < 9");
        due("a scan", 1, x.giveUp(1));
        due("by hand", 1, x.index(1, 15));
        Check.build(x, 1, "index a");
        due("begins", 0, x.index(1, 15));
        x.work(1, 48);
        due("catching up", 2, x.giveUp(1));
        Check.build(x, 1, "index a");
        x.work(1, 49);
        due("last round", 3, x.giveUp(1));
        due("nobody waits", 0, x.count(4));
        Check.ready(x, 1, "index a");
        due("ready", 4, x.giveUp(1));
        Check.ready(x, 1, "index a unique where b < 9");
        due("alike ones", 5, x.giveUp(1));
        CHECK.dueAll("nothing is left", "0, 0, -1, 0, 0, 0, -1", told(x, 1));
        due("unique", 0, x.index(1, 7));
        due("where", -1, x.index(1, 12));
        due("op", 0, x.index(1, 13));
        due("number", 0, x.index(1, 14));
        due("again", -5, x.giveUp(1));
    }

    private static void terms() {
        LateIndex x = new LateIndex();
        due("what", -2, x.terms(2, 3));
        due("what", -2, x.terms(-1, 99));
        due("short", -3, x.terms(0, -1));
        due("short", -3, x.terms(0, 21));
        due("most", -3, x.terms(1, 0));
        due("most", -3, x.terms(1, 10));
        due("short", 3, x.terms(0, 20));
        due("short", 20, x.terms(0, 0));
        due("short", 0, x.terms(0, 0));
        due("most", 5, x.terms(1, 1));
        due("most", 1, x.terms(1, 9));
        CHECK.dueAll("now", "0, 9, 5", x.count(7), x.count(8), x.count(6));
        Check.build(x, 0, "index a");
        x.work(0, 48);
        change(x, 0, 1, 1);
        due("short 0", 2, x.work(0, 1));
        due("round 2", 2, x.index(0, 5));
    }

    private static void index() {
        LateIndex x = new LateIndex();
        due("index", -2, x.index(2, 0));
        due("what", -2, x.index(0, 16));
        due("what", -2, x.index(0, -1));
        for (int what = 0; what < 16; what++) {
            boolean none = what == 2 || what == 6 || (what >= 9 && what <= 12);
            due("none " + what, none ? -1 : 0, x.index(1, what));
        }
        Check.commit(x, Check.row(2, 7, 8, 9));
        Check.build(x, 1, "index b desc, a unique where c > 8");
        x.work(1, 3);
        int[] want = {1, 1, 3, 0, 0, 0, 1, 1, 2, 11, 0, -1, 2, 3, 8, 0};
        for (int what = 0; what < 16; what++) {
            due("what " + what, want[what], x.index(1, what));
        }
    }

    private static void entry() {
        LateIndex x = new LateIndex();
        due("index", -2, x.entry(2, 0, 0));
        due("what", -2, x.entry(0, -1, 4));
        due("what", -2, x.entry(0, 0, -1));
        due("k", -3, x.entry(0, -1, 0));
        due("none", -1, x.entry(0, 0, 0));
        Check.commit(x, Check.row(0, 5, 1, 10), Check.row(1, 5, 2, 20), Check.row(2, 4, 3, 30), Check.row(3, 5, 1, 40),
            Check.row(4, 6, 0, 50), Check.row(5, 5, 1, 60));
        Check.ready(x, 0, "index a desc, b");
        CHECK.dueAll("by columns, then rows", "4, 0, 3, 5, 1, 2", Check.entries(x, 0));
        CHECK.dueAll("its key", "1, 5, 2, -1", x.entry(0, 4, 0), x.entry(0, 4, 1), x.entry(0, 4, 2), x.entry(0, 4, 3));
        due("not so many", -1, x.entry(0, 6, 0));
        due("not so many", -1, x.entry(0, Integer.MAX_VALUE, 3));
        Check.ready(x, 1, "index c desc, b desc, a desc where a ! 5");
        CHECK.dueAll("of some rows", "4, 2", Check.entries(x, 1));
        CHECK.dueAll("its key", "50, 0, 6", x.entry(1, 0, 1), x.entry(1, 0, 2), x.entry(1, 0, 3));
    }

    private static void logged() {
        LateIndex x = new LateIndex();
        due("index", -2, x.logged(-1, 0, 0, 0));
        due("which", -2, x.logged(0, 2, -1, 0));
        due("which", -2, x.logged(0, -1, 0, 0));
        due("what", -2, x.logged(0, 0, 0, 5));
        due("what", -2, x.logged(0, 0, -1, -1));
        due("k", -3, x.logged(0, 0, -1, 0));
        due("none", -1, x.logged(0, 1, 0, 0));
        Check.commit(x, Check.row(9, 1, 2, 3), Check.row(3, 4, 5, 6));
        Check.build(x, 0, "index c desc, a");
        Check.commit(x, Check.row(9, 7, 2, 8), Check.row(3));
        CHECK.dueAll("rows rising: take of 3", "0, 3, 6, 4, -1", x.logged(0, 1, 0, 0), x.logged(0, 1, 0, 1),
            x.logged(0, 1, 0, 2), x.logged(0, 1, 0, 3), x.logged(0, 1, 0, 4));
        CHECK.dueAll("take of 9", "0, 9, 3, 1, -1", x.logged(0, 1, 1, 0), x.logged(0, 1, 1, 1),
            x.logged(0, 1, 1, 2), x.logged(0, 1, 1, 3), x.logged(0, 1, 1, 4));
        CHECK.dueAll("add of 9", "1, 9, 8, 7, -1", x.logged(0, 1, 2, 0), x.logged(0, 1, 2, 1),
            x.logged(0, 1, 2, 2), x.logged(0, 1, 2, 3), x.logged(0, 1, 2, 4));
        due("not so many", -1, x.logged(0, 1, 3, 0));
        due("none in now", -1, x.logged(0, 0, 0, 0));
        x.work(0, 48);
        due("in now then", 3, x.logged(0, 0, 0, 1));
        due("none in later", -1, x.logged(0, 1, 0, 0));
        x.work(0, 1);
        due("the first went", 9, x.logged(0, 0, 0, 1));
        due("not so many", -1, x.logged(0, 0, 2, 0));
        due("the second", 1, x.logged(0, 0, 1, 0));
    }

    private static void logLeavesOutWhatStays() {
        LateIndex x = new LateIndex();
        Check.commit(x, Check.row(0, 1, 1, 1), Check.row(1, 1, 1, 9));
        Check.build(x, 0, "index a where c < 5");
        Check.commit(x, Check.row(0, 1, 50, 2));
        due("one key", 0, x.index(0, 4));
        Check.commit(x, Check.row(1, 2, 2, 8));
        due("where holds neither then nor now", 0, x.index(0, 4));
        Check.commit(x, Check.row(5));
        due("never there", 0, x.index(0, 4));
        Check.commit(x, Check.row(0, 1, 1, 6));
        CHECK.dueAll("where holds no more", "1, 0", x.index(0, 4), x.logged(0, 1, 0, 0));
        Check.commit(x, Check.row(0, 1, 1, 1));
        CHECK.dueAll("where holds again", "2, 1", x.index(0, 4), x.logged(0, 1, 1, 0));
        x.sweep();
        Check.commit(x, Check.row(0, 3, 1, 1));
        CHECK.dueAll("another key", "4, 0, 1", x.index(0, 4), x.logged(0, 1, 2, 0), x.logged(0, 1, 3, 0));
    }

    private static void keptTrue() {
        LateIndex x = new LateIndex();
        Check.ready(x, 0, "index b desc where a > 0");
        Check.commit(x, Check.row(0, 1, 5, 0), Check.row(1, 1, 6, 0), Check.row(2, 0, 7, 0));
        CHECK.dueAll("at once", "1, 0", Check.entries(x, 0));
        Check.commit(x, Check.row(0, 1, 9, 0), Check.row(1, 0, 6, 0), Check.row(2, 9, 9, 0));
        CHECK.dueAll("at once", "0, 2", Check.entries(x, 0));
        CHECK.dueAll("no logs", "0, 0", x.index(0, 3), x.index(0, 4));
        Check.commit(x, Check.row(0), Check.row(2));
        due("none", 0, x.index(0, 1));
        due("still ready", 4, x.index(0, 0));
    }

    private static void twoIndexes() {
        LateIndex x = new LateIndex();
        Check.ready(x, 0, "index a");
        Check.build(x, 1, "index b");
        Check.commit(x, Check.row(0, 1, 2, 3));
        CHECK.dueAll("each its own way", "1, 0, 0, 1", x.index(0, 1), x.index(0, 4), x.index(1, 1), x.index(1, 4));
        x.work(1, 48);
        due("no entry at its snap", 0, x.index(1, 1));
        due("the last round of one", 3, x.work(1, 2));
        due("commits wait for it", 0, Check.commit(x, Check.row(1, 1, 1, 1)));
        due("why", 2, x.why());
    }
}
