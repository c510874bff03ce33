/** Promises 20 to 31: what is asked. */
public final class AskedTest {
    private static final Check CHECK = new Check("asked");

    public static void main(String[] args) {
        aheadAndSame();
        readsAndBy();
        query();
        findAndFound();
        planWithout();
        planStretch();
        planPartial();
        planCheapest();
        planSorted();
        far();
        alike();
        units();
        free();
        everyRowThere();
        CHECK.close();
    }

    private static void due(String call, int want, int got) {
        CHECK.due(call, want, got);
    }

    private static LateIndex sample() {
        LateIndex x = new LateIndex();
        Check.commit(x, Check.row(0, 5, 1, 10), Check.row(1, 5, 2, 20), Check.row(2, 4, 3, 30), Check.row(3, 5, 1, 40),
            Check.row(4, 6, 0, 50), Check.row(5, 5, 1, 60));
        return x;
    }

    private static void aheadAndSame() {
        LateIndex x = sample();
        due("ahead: index", -2, x.ahead(2, 0, 0, 0));
        due("ahead: number", -3, x.ahead(0, 0, 0, 100));
        due("ahead: state", -5, x.ahead(0, 0, 0, 0));
        due("same: index", -2, x.same(-1, 100, 0, 0));
        due("same: number", -3, x.same(0, 0, -1, 0));
        due("same: state", -5, x.same(0, 0, 0, 0));
        Check.build(x, 0, "index a desc, b");
        x.work(0, 49);
        due("last round", -5, x.ahead(0, 0, 0, 0));
        due("last round", -5, x.same(0, 0, 0, 0));
        x.work(0, 1);
        due("ahead of the first", 0, x.ahead(0, 6, 0, 77));
        due("ahead of (5, 1)", 1, x.ahead(0, 5, 1, 0));
        due("ahead of (5, 2)", 4, x.ahead(0, 5, 2, 0));
        due("ahead of (5, 99)", 5, x.ahead(0, 5, 99, 0));
        due("ahead of (0, 0)", 6, x.ahead(0, 0, 0, 0));
        due("ahead of (99, 99)", 0, x.ahead(0, 99, 99, 99));
        due("same (5, 1)", 3, x.same(0, 5, 1, 99));
        due("same (5, 3)", 0, x.same(0, 5, 3, 0));
        due("same (6, 0)", 1, x.same(0, 6, 0, 0));
        Check.ready(x, 1, "index c unique where a = 5");
        due("where needn't hold", 2, x.ahead(1, 0, 0, 40));
        due("where needn't hold", 1, x.same(1, 0, 0, 40));
        due("not an entry", 0, x.same(1, 6, 0, 50));
    }

    private static void readsAndBy() {
        LateIndex x = sample();
        due("column", -2, x.reads(3, 100));
        due("column", -2, x.by(-1));
        due("v", -3, x.reads(0, 100));
        due("v", -3, x.reads(0, -1));
        due("without an index", 6, x.reads(0, 5));
        due("without an index", -1, x.by(0));
        Check.build(x, 0, "index b, a");
        due("not ready", -1, x.by(1));
        x.work(0, 200);
        due("its first column", 0, x.by(1));
        due("not its second", -1, x.by(0));
        due("three and 1", 4, x.reads(1, 1));
        due("none and 1", 1, x.reads(1, 99));
        Check.ready(x, 1, "index b desc");
        due("the lowest", 0, x.by(1));
        x.giveUp(0);
        due("the other", 1, x.by(1));
        due("falling, too", 4, x.reads(1, 1));
        Check.ready(x, 0, "index a where b < 99");
        due("none with where", -1, x.by(0));
        due("none with where", 6, x.reads(0, 5));
        Check.commit(x, Check.row(9, 9, 9, 9));
        due("rows now", 7, x.reads(0, 5));
    }

    private static void query() {
        LateIndex x = sample();
        due("n", -3, x.query(-1));
        due("n", -3, x.query(1));
        Check.tape(x, "find a = 5 and b = 1");
        due("n", -3, x.query(21));
        due("the tape stays", 20, x.count(5));
        due("two conditions", 2, x.query(20));
        due("the tape is empty", 0, x.count(5));
        due("it can't be undone", 3 + 5, x.count(6));
        due("found", 3, x.find(-1));
        due("a fault", -31, Check.query(x, "find a ="));
        due("the elder stays", 3, x.find(-1));
        due("a part of the tape", 1, x.query(Check.tape(x, "find b = 2 and c = 0") - 10));
        due("found", 1, x.find(-1));
        x.image(0);
        Check.query(x, "find");
        x.restore(0);
        due("it isn't restored", 6, x.find(-1));
    }

    private static void findAndFound() {
        LateIndex x = sample();
        due("find: no query", -5, x.find(-1));
        due("find: transaction", -2, x.find(-2));
        due("found: transaction", -2, x.found(4, -1));
        due("found: i", -3, x.found(2, -1));
        due("found: no query", -5, x.found(-1, 0));
        Check.query(x, "find a = 5 and b ! 2 order c desc");
        due("find: not open", -5, x.find(1));
        due("found: not open", -5, x.found(1, 0));
        CHECK.dueAll("by c falling", "5, 3, 0", Check.foundRows(x, -1));
        due("not so many", -1, x.found(-1, 3));
        due("not so many", -1, x.found(-1, Integer.MAX_VALUE));
        Check.query(x, "find order b desc, a");
        CHECK.dueAll("two keys, then rows", "2, 1, 0, 3, 5, 4", Check.foundRows(x, -1));
        Check.query(x, "find c > 10 and c < 60 and c ! 30");
        CHECK.dueAll("by rows", "1, 3, 4", Check.foundRows(x, -1));
        x.begin(0);
        x.put(0, 10, 0, 0, 11);
        x.erase(0, 1);
        Check.commit(x, Check.row(3), Check.row(11, 0, 0, 59));
        CHECK.dueAll("as it sees them", "3, 4, 10", Check.foundRows(x, 0));
        CHECK.dueAll("the table", "1, 4, 11", Check.foundRows(x, -1));
        Check.query(x, "find a < 0");
        due("nothing", 0, x.find(-1));
        due("nothing", -1, x.found(-1, 0));
    }

    private static int[] plan(LateIndex x, String text) {
        Check.query(x, text);
        return new int[] {x.plan(0), x.plan(1), x.plan(2), x.plan(3), x.plan(4)};
    }

    private static void planWithout() {
        LateIndex x = sample();
        due("what", -2, x.plan(5));
        due("what", -2, x.plan(-1));
        due("no query", -5, x.plan(0));
        CHECK.dueAll("no keys", "-1, 6, 1, 0, 0", plan(x, "find a = 5"));
        CHECK.dueAll("keys", "-1, 6, 0, 0, 0", plan(x, "find a = 5 order a"));
        Check.build(x, 0, "index a");
        CHECK.dueAll("not ready", "-1, 6, 1, 0, 0", plan(x, "find a = 4"));
    }

    private static void planStretch() {
        LateIndex x = sample();
        Check.ready(x, 0, "index a, b desc, c");
        CHECK.dueAll("by =", "0, 2, 1, 1, 1", plan(x, "find a = 4"));
        CHECK.dueAll("by <", "0, 2, 1, 1, 1", plan(x, "find a < 5"));
        CHECK.dueAll("by !", "-1, 6, 1, 0, 0", plan(x, "find a ! 5"));
        CHECK.dueAll("the second column alone", "-1, 6, 1, 0, 0", plan(x, "find b = 1"));
        CHECK.dueAll("two columns", "0, 4, 1, 2, 1", plan(x, "find b = 1 and a = 5"));
        CHECK.dueAll("three columns", "0, 3, 1, 3, 1", plan(x, "find a = 5 and b = 1 and c > 10"));
        CHECK.dueAll("behind < nothing more", "0, 5, 1, 2, 1", plan(x, "find a < 6 and a > 4 and b = 1"));
        CHECK.dueAll("a gap", "0, 5, 1, 1, 1", plan(x, "find a = 5 and c = 10"));
        CHECK.dueAll("= and < of one column", "0, 1, 1, 2, 1", plan(x, "find a = 5 and a < 5"));
        CHECK.dueAll("= and < and the next", "0, 2, 1, 3, 1", plan(x, "find a = 5 and a < 6 and b > 1"));
        CHECK.dueAll("! is left out", "0, 2, 1, 2, 1", plan(x, "find a = 5 and b > 1 and b ! 2 and a ! 5"));
        CHECK.dueAll("twice the same", "0, 2, 1, 2, 1", plan(x, "find a = 6 and a = 6"));
        CHECK.dueAll("< at the second alone", "0, 2, 1, 2, 1", plan(x, "find a > 4 and b < 9 and a > 5"));
        CHECK.dueAll("no row read", "0, 1, 1, 1, 1", plan(x, "find a > 98"));
    }

    private static void planPartial() {
        LateIndex x = sample();
        Check.ready(x, 1, "index b where a = 5");
        CHECK.dueAll("just one of the conditions", "1, 2, 1, 1, 2", plan(x, "find b = 2 and a = 5"));
        CHECK.dueAll("another number", "-1, 6, 1, 0, 0", plan(x, "find b = 2 and a = 4"));
        CHECK.dueAll("another op", "-1, 6, 1, 0, 0", plan(x, "find b = 2 and a > 5"));
        CHECK.dueAll("another column", "-1, 6, 1, 0, 0", plan(x, "find b = 2 and c = 5"));
        CHECK.dueAll("none", "-1, 6, 1, 0, 0", plan(x, "find b = 2"));
        CHECK.dueAll("where alone", "-1, 6, 1, 0, 0", plan(x, "find a = 5"));
        x.giveUp(1);
        Check.ready(x, 1, "index b where b > 1");
        CHECK.dueAll("where of its first column", "1, 3, 1, 1, 2", plan(x, "find b > 1"));
        x.giveUp(1);
        Check.ready(x, 1, "index b where b ! 1");
        CHECK.dueAll("where by !", "-1, 6, 1, 0, 0", plan(x, "find b ! 1"));
        CHECK.dueAll("where by ! and another", "1, 3, 1, 1, 2", plan(x, "find b ! 1 and b < 3"));
    }

    private static void planCheapest() {
        LateIndex x = sample();
        Check.ready(x, 0, "index a");
        Check.ready(x, 1, "index b");
        CHECK.dueAll("the cheaper one", "1, 2, 1, 1, 3", plan(x, "find a = 5 and b = 2"));
        CHECK.dueAll("the lower one", "0, 2, 1, 1, 3", plan(x, "find a = 4 and b = 3"));
        CHECK.dueAll("without, if it reads as many", "-1, 6, 1, 0, 1", plan(x, "find a > 4"));
        CHECK.dueAll("the other one", "1, 5, 1, 1, 3", plan(x, "find a > 4 and b < 2"));
        LateIndex y = new LateIndex();
        Check.ready(y, 0, "index a");
        CHECK.dueAll("nothing there", "-1, 0, 1, 0, 1", plan(y, "find a = 4"));
        Check.commit(y, Check.row(0, 4, 4, 4));
        CHECK.dueAll("one there", "-1, 1, 1, 0, 1", plan(y, "find a = 5"));
    }

    private static void planSorted() {
        LateIndex x = sample();
        Check.ready(x, 0, "index a, b desc");
        CHECK.dueAll("just the keys", "0, 2, 1, 1, 1", plan(x, "find a = 4 order a, b desc"));
        CHECK.dueAll("the first of them", "0, 2, 1, 1, 1", plan(x, "find a = 4 order a"));
        CHECK.dueAll("down, not up", "0, 2, 0, 1, 1", plan(x, "find a = 4 order a, b"));
        CHECK.dueAll("up, not down", "0, 2, 0, 1, 1", plan(x, "find a = 4 order a desc"));
        CHECK.dueAll("the second", "0, 2, 0, 1, 1", plan(x, "find a = 4 order b desc"));
        CHECK.dueAll("more keys", "0, 2, 0, 1, 1", plan(x, "find a = 4 order a, b desc, c"));
        CHECK.dueAll("changed about", "0, 2, 0, 1, 1", plan(x, "find a = 4 order b desc, a"));
        CHECK.dueAll("read without", "-1, 6, 0, 0, 0", plan(x, "find c = 10 order a, b desc"));
    }

    private static void far() {
        LateIndex x = sample();
        due("index", -2, x.far(2));
        due("state 0", -5, x.far(0));
        Check.build(x, 0, "index a where b < 3");
        due("all lack", 5, x.far(0));
        x.work(0, 2);
        due("two are there", 3, x.far(0));
        Check.commit(x, Check.row(0, 9, 1, 10), Check.row(1));
        due("one changed, one gone", 6, x.far(0));
        Check.commit(x, Check.row(3, 5, 9, 9));
        due("one for which where holds no more", 5, x.far(0));
        x.work(0, 46);
        due("behind the scan", 4, x.far(0));
        x.work(0, 4);
        due("caught up", 0, x.far(0));
    }

    private static void alike() {
        LateIndex x = sample();
        due("index", -2, x.alike(2, -2, 0));
        due("k", -3, x.alike(0, -2, 0));
        due("j", -3, x.alike(0, -1, -1));
        due("state 0", -5, x.alike(0, -1, 0));
        Check.build(x, 0, "index a desc");
        due("one key", 1, x.alike(0, -1, 99));
        CHECK.dueAll("its rows", "0, 1, 3, 5, -1", x.alike(0, 0, 0), x.alike(0, 0, 1), x.alike(0, 0, 2), x.alike(0, 0, 3),
            x.alike(0, 0, 4));
        due("not so many", -1, x.alike(0, 1, 0));
        Check.commit(x, Check.row(20, 6, 0, 0), Check.row(19, 4, 0, 0));
        due("three keys, whatever the index has", 3, x.alike(0, -1, 0));
        CHECK.dueAll("by the order of entries", "4, 20, -1, 0, 2, 19, -1", x.alike(0, 0, 0), x.alike(0, 0, 1),
            x.alike(0, 0, 2), x.alike(0, 1, 0), x.alike(0, 2, 0), x.alike(0, 2, 1), x.alike(0, 2, 2));
        due("far away", -1, x.alike(0, Integer.MAX_VALUE, Integer.MAX_VALUE));
        due("far away", -1, x.alike(0, 0, Integer.MAX_VALUE));
        Check.build(x, 1, "index b, a where c > 10");
        CHECK.dueAll("where holds", "1, 3, 5", x.alike(1, -1, 0), x.alike(1, 0, 0), x.alike(1, 0, 1));
    }

    private static void units() {
        LateIndex x = new LateIndex();
        due("index", -2, x.units(2, 6));
        due("w", -3, x.units(0, -1));
        due("w", -3, x.units(0, 6));
        due("state 0", -5, x.units(0, 0));
        Check.build(x, 0, "index a unique");
        due("48 and 2", 50, x.units(0, 0));
        x.terms(1, 1);
        due("48, then all in now, given up", 48 + 47 + 1, x.units(0, 1));
        x.terms(1, 9);
        due("more than 999", -1, x.units(0, 5));
        x.work(0, 48);
        due("two are left", 2, x.units(0, 0));
        due("no more than short", 2, x.units(0, 3));
        Check.commit(x, Check.row(0, 1, 0, 0), Check.row(1, 1, 0, 0), Check.row(2, 3, 0, 0));
        due("as if nothing were alike", 5, x.units(0, 0));
        due("last round", 3, x.work(0, 1));
        due("none comes then", 4, x.units(0, 5));
        x.work(0, 3);
        due("the judgement", 1, x.units(0, 5));
        x.work(0, 1);
        due("alike ones", -5, x.units(0, 0));
        longUnits();
    }

    /** Just 999 can be told, one more can't: nine rounds, each of them longer by one than that ahead of it. */
    private static void longUnits() {
        LateIndex x = new LateIndex();
        x.terms(1, 9);
        Check.build(x, 1, "index a");
        for (int a = 0; a < 4; a++) {
            int[][] rows = new int[8][];
            for (int row = 0; row < 8; row++) {
                rows[row] = Check.row(row, a, 0, 0);
            }
            Check.commit(x, rows);
        }
        x.work(1, 2);
        due("later", 56, x.index(1, 4));
        due("1000", -1, x.units(1, 1));
        Check.commit(x, Check.row(9, 1, 1, 1));
        x.work(1, 1);
        due("999", 999, x.units(1, 1));
    }

    private static void free() {
        LateIndex x = new LateIndex();
        due("at first", 0, x.free());
        x.begin(0);
        x.put(0, 0, 1, 1, 1);
        due("written", 1, x.free());
        x.begin(1);
        x.erase(1, 1);
        due("erased is written, too", 2, x.free());
        x.roll(0);
        due("rolled", 0, x.free());
        x.roll(1);
        fill(x);
        due("none", -1, x.free());
        x.begin(0);
        x.erase(0, 30);
        due("still there", -1, x.free());
        x.commit(0);
        due("erased", 30, x.free());
    }

    private static void fill(LateIndex x) {
        for (int k = 0; k < 48; k += 8) {
            int[][] rows = new int[8][];
            for (int j = 0; j < 8; j++) {
                rows[j] = Check.row(k + j, 1, k + j, 1);
            }
            Check.commit(x, rows);
        }
    }

    /** Nothing has room left then. */
    private static void everyRowThere() {
        LateIndex x = new LateIndex();
        Check.ready(x, 0, "index a");
        fill(x);
        Check.build(x, 1, "index b desc unique");
        due("the second is ready, too", 4, x.work(1, 200));
        CHECK.dueAll("entries", "48, 48", x.index(0, 1), x.index(1, 1));
        CHECK.dueAll("the last ones", "47, 0, -1", x.entry(0, 47, 0), x.entry(1, 47, 0), x.entry(1, 48, 0));
        CHECK.dueAll("ahead of what comes behind all, or last", "48, 47", x.ahead(0, 99, 0, 0), x.ahead(1, 0, 0, 0));
        CHECK.dueAll("ahead of what comes ahead of all", "0, 0", x.ahead(0, 0, 0, 0), x.ahead(1, 0, 99, 0));
        CHECK.dueAll("same", "48, 1", x.same(0, 1, 0, 0), x.same(1, 0, 47, 0));
        CHECK.dueAll("alike", "1, 47, -1, -1", x.alike(0, -1, 0), x.alike(0, 0, 47), x.alike(0, 0, 48), x.alike(0, 1, 0));
        CHECK.dueAll("none alike", "0, -1", x.alike(1, -1, 0), x.alike(1, 0, 0));
        CHECK.dueAll("far", "0, 0", x.far(0), x.far(1));
        Check.query(x, "find a > 0 order b desc");
        CHECK.dueAll("found", "48, 47, 0, -1", x.find(-1), x.found(-1, 0), x.found(-1, 47), x.found(-1, 48));
        due("a commit that changes keys about", 7, Check.commit(x, Check.row(0, 2, 47, 0), Check.row(47, 0, 0, 0)));
        CHECK.dueAll("the ends", "47, 0, 0, 47", x.entry(0, 0, 0), x.entry(0, 47, 0), x.entry(1, 0, 0), x.entry(1, 47, 0));
        due("one alike", 0, Check.commit(x, Check.row(1, 2, 47, 0)));
        due("why", 3, x.why());
    }
}
