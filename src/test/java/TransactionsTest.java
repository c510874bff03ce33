/** Promises 1 to 9. */
public final class TransactionsTest {
    private static final Check CHECK = new Check("transactions");

    public static void main(String[] args) {
        newObject();
        begin();
        put();
        erase();
        commitInOrder();
        commitConflict();
        commitWaits();
        commitAlike();
        commitFull();
        why();
        roll();
        see();
        sweep();
        sweepKeepsScans();
        CHECK.close();
    }

    private static void due(String call, int want, int got) {
        CHECK.due(call, want, got);
    }

    private static void newObject() {
        LateIndex x = new LateIndex();
        due("rows", 0, x.count(0));
        due("versions", 48, x.count(3));
        due("index 0", 0, x.index(0, 0));
        due("index 1", 0, x.index(1, 0));
        due("ended by", 0, x.index(1, 15));
        due("undo", -3, x.undo(1));
        for (int row = 0; row < 48; row++) {
            due("row " + row, 0, x.see(-1, row, 0));
        }
        LateIndex y = new LateIndex();
        Check.commit(x, Check.row(0, 1, 2, 3));
        due("another object", 0, y.count(0));
    }

    private static void begin() {
        LateIndex x = new LateIndex();
        due("begin(-1)", -2, x.begin(-1));
        due("begin(4)", -2, x.begin(4));
        due("begin(0)", 0, x.begin(0));
        due("begin(0) again", -5, x.begin(0));
        due("commits", 1, Check.commit(x, Check.row(9, 1, 1, 1)));
        due("begin(2)", 1, x.begin(2));
        due("snap 0", 0, x.count(20));
        due("snap 2", 1, x.count(22));
        due("snap 1", -1, x.count(21));
    }

    private static void put() {
        LateIndex x = new LateIndex();
        due("not open", -5, x.put(0, 0, 0, 0, 0));
        due("number ahead of open", -3, x.put(0, 0, 0, 0, 100));
        due("row ahead of number", -2, x.put(0, -1, 0, 0, 100));
        due("transaction", -2, x.put(4, 0, 0, 0, 0));
        x.begin(0);
        due("a", -3, x.put(0, 0, -1, 0, 0));
        due("b", -3, x.put(0, 0, 0, 100, 0));
        due("c", -3, x.put(0, 0, 0, 0, Integer.MIN_VALUE));
        due("row 48", -2, x.put(0, 48, 0, 0, 0));
        for (int k = 0; k < 8; k++) {
            due("put " + k, k + 1, x.put(0, 47 - k, 99, 0, k));
        }
        due("a ninth", -4, x.put(0, 0, 1, 1, 1));
        due("one of the eight", 8, x.put(0, 47, 5, 6, 7));
        due("its own", 6, x.see(0, 47, 2));
        due("number ahead of too many", -3, x.put(0, 0, 1, 1, 111));
    }

    private static void erase() {
        LateIndex x = new LateIndex();
        Check.commit(x, Check.row(5, 1, 2, 3));
        due("not open", -5, x.erase(0, 5));
        due("row", -2, x.erase(0, 48));
        due("transaction", -2, x.erase(-1, 5));
        x.begin(0);
        due("seen", 1, x.erase(0, 5));
        due("seen no more", 0, x.erase(0, 5));
        due("never there", 0, x.erase(0, 6));
        due("writes", 2, x.count(10));
        x.put(0, 6, 1, 1, 1);
        due("its own put", 1, x.erase(0, 6));
        for (int row = 10; row < 16; row++) {
            x.put(0, row, 0, 0, 0);
        }
        due("a ninth", -4, x.erase(0, 20));
        due("one of the eight", 1, x.erase(0, 15));
        due("the table", 1, x.see(-1, 5, 0));
        due("commit", 2, x.commit(0));
        due("the table then", 0, x.see(-1, 5, 0));
        due("rows", 5, x.count(0));
    }

    private static void commitInOrder() {
        LateIndex x = new LateIndex();
        due("transaction", -2, x.commit(4));
        due("not open", -5, x.commit(1));
        x.begin(1);
        due("no writes", 0, x.commit(1));
        due("no writes: why", 0, x.why());
        due("over", 0, x.count(2));
        x.begin(1);
        x.put(1, 7, 1, 2, 3);
        due("commit", 1, x.commit(1));
        due("over", 0, x.count(2));
        due("writes", 0, x.count(11));
        x.begin(0);
        x.put(0, 7, 1, 2, 3);
        due("as the one ahead", 2, x.commit(0));
        due("versions", 50, x.count(3));
        x.begin(0);
        due("no writes keep seq", 2, x.commit(0));
    }

    private static void commitConflict() {
        LateIndex x = new LateIndex();
        x.begin(0);
        x.begin(1);
        x.begin(2);
        x.put(0, 3, 1, 1, 1);
        x.put(1, 3, 2, 2, 2);
        x.put(1, 4, 2, 2, 2);
        x.put(2, 5, 3, 3, 3);
        due("the first", 1, x.commit(0));
        due("the second", 0, x.commit(1));
        due("why", 1, x.why());
        due("over", 4, x.count(2));
        due("without its writes", 0, x.see(-1, 4, 0));
        due("another row", 2, x.commit(2));
        due("why", 0, x.why());
        x.begin(0);
        x.erase(0, 3);
        x.begin(1);
        x.erase(1, 3);
        x.commit(0);
        due("both erase", 0, x.commit(1));
        due("why", 1, x.why());
        x.begin(0);
        x.begin(1);
        x.put(0, 3, 1, 1, 1);
        x.put(1, 3, 1, 1, 1);
        x.commit(0);
        x.sweep();
        due("swept between", 0, x.commit(1));
        due("why", 1, x.why());
    }

    private static void commitWaits() {
        LateIndex x = new LateIndex();
        x.begin(0);
        x.begin(1);
        x.put(0, 1, 1, 1, 1);
        x.put(1, 1, 2, 2, 2);
        x.commit(0);
        x.begin(2);
        x.put(2, 2, 2, 2, 2);
        Check.build(x, 1, "index a");
        due("last round", 3, x.work(1, 49));
        due("waits now", 1, x.count(4));
        due("waits ahead of conflict", 0, x.commit(1));
        due("why", 2, x.why());
        due("waits", 0, x.commit(2));
        due("still open", 6, x.count(2));
        due("its writes", 1, x.count(12));
        x.begin(3);
        due("no writes", 1, x.commit(3));
        due("why", 0, x.why());
        x.work(1, 1);
        due("waits no more", 0, x.count(4));
        due("commit", 2, x.commit(2));
        due("conflict", 0, x.commit(1));
        due("why", 1, x.why());
    }

    private static void commitAlike() {
        LateIndex x = new LateIndex();
        Check.commit(x, Check.row(0, 1, 1, 1), Check.row(1, 2, 1, 1), Check.row(2, 2, 1, 9));
        Check.ready(x, 0, "index a, b unique where c < 5");
        due("ready", 4, x.index(0, 0));
        due("alike", 0, Check.commit(x, Check.row(5, 1, 1, 4)));
        due("why", 3, x.why());
        due("over", 0, x.count(2));
        due("seq", 1, x.count(1));
        due("where doesn't hold", 2, Check.commit(x, Check.row(5, 1, 1, 5)));
        due("two of its writes", 0, Check.commit(x, Check.row(6, 7, 7, 0), Check.row(7, 7, 7, 1)));
        due("why", 3, x.why());
        due("changed about", 3, Check.commit(x, Check.row(0, 2, 1, 1), Check.row(1, 1, 1, 1)));
        due("erased and put", 4, Check.commit(x, Check.row(0), Check.row(10, 2, 1, 2)));
        due("far", 0, x.far(0));
        Check.build(x, 1, "index c unique");
        due("not ready yet", 5, Check.commit(x, Check.row(20, 50, 0, 50), Check.row(21, 51, 0, 50)));
        due("alike ones", 5, x.work(1, 200));
        due("nor judged", 6, Check.commit(x, Check.row(22, 52, 0, 50)));
    }

    private static void commitFull() {
        LateIndex x = new LateIndex();
        for (int k = 1; k <= 7; k++) {
            due("commit " + k, k, Check.commit(x, Check.row(30, k, k, k)));
        }
        x.begin(0);
        x.put(0, 30, 8, 8, 8);
        x.put(0, 31, 8, 8, 8);
        due("full", 0, x.commit(0));
        due("why", 4, x.why());
        due("open", 1, x.count(2));
        due("writes", 2, x.count(10));
        due("others", 8, Check.commit(x, Check.row(29, 0, 0, 0)));
        due("sweep: what 0 sees of row 29 stays", 7, x.sweep());
        due("commit", 9, x.commit(0));
        due("two versions of three rows", 51, x.count(3));
    }

    private static void why() {
        LateIndex x = new LateIndex();
        due("at first", 0, x.why());
        x.begin(0);
        x.begin(1);
        x.put(0, 0, 0, 0, 0);
        x.put(1, 0, 0, 0, 0);
        x.commit(0);
        x.commit(1);
        due("conflict", 1, x.why());
        x.commit(1);
        due("a refused one doesn't count", 1, x.why());
        x.undo(1);
        due("it isn't undone", 1, x.why());
        x.image(0);
        Check.commit(x, Check.row(8, 8, 8, 8));
        due("it went", 0, x.why());
        x.restore(0);
        due("nor restored", 0, x.why());
    }

    private static void roll() {
        LateIndex x = new LateIndex();
        due("transaction", -2, x.roll(4));
        due("not open", -5, x.roll(3));
        x.begin(3);
        due("none", 0, x.roll(3));
        x.begin(3);
        x.put(3, 1, 1, 1, 1);
        x.erase(3, 2);
        x.put(3, 1, 1, 1, 2);
        due("two", 2, x.roll(3));
        due("over", -5, x.roll(3));
        due("nothing of it", 0, x.see(-1, 1, 0));
        x.begin(3);
        due("nor later", 0, x.see(3, 1, 0));
        due("no writes", 0, x.count(13));
    }

    private static void see() {
        LateIndex x = new LateIndex();
        Check.commit(x, Check.row(4, 10, 0, 99));
        x.begin(0);
        Check.commit(x, Check.row(4, 20, 21, 22), Check.row(6, 1, 1, 1));
        x.begin(1);
        due("transaction", -2, x.see(-2, 4, 0));
        due("transaction", -2, x.see(4, 4, 0));
        due("row", -2, x.see(0, 48, 0));
        due("what", -2, x.see(0, 4, 4));
        due("what", -2, x.see(2, 4, -1));
        due("not open", -5, x.see(2, 4, 0));
        CHECK.dueAll("as it began", "1, 10, 0, 99", x.see(0, 4, 0), x.see(0, 4, 1), x.see(0, 4, 2), x.see(0, 4, 3));
        CHECK.dueAll("later", "1, 20, 21, 22", x.see(1, 4, 0), x.see(1, 4, 1), x.see(1, 4, 2), x.see(1, 4, 3));
        CHECK.dueAll("the table", "1, 20, 21, 22", x.see(-1, 4, 0), x.see(-1, 4, 1), x.see(-1, 4, 2), x.see(-1, 4, 3));
        CHECK.dueAll("not there", "0, -1, -1, -1", x.see(0, 6, 0), x.see(0, 6, 1), x.see(0, 6, 2), x.see(0, 6, 3));
        x.erase(0, 4);
        x.put(0, 6, 3, 3, 3);
        due("its erase", 0, x.see(0, 4, 0));
        due("its put", 3, x.see(0, 6, 1));
        due("not another's", 1, x.see(1, 6, 1));
        due("nor the table's", 1, x.see(-1, 6, 1));
    }

    private static void sweep() {
        LateIndex x = new LateIndex();
        due("nothing", 0, x.sweep());
        Check.commit(x, Check.row(0, 1, 1, 1));
        x.begin(0);
        Check.commit(x, Check.row(0, 2, 2, 2));
        Check.commit(x, Check.row(0, 3, 3, 3));
        x.begin(1);
        Check.commit(x, Check.row(0, 4, 4, 4));
        due("versions", 52, x.count(3));
        due("those of 0 and 2", 2, x.sweep());
        due("seen by 0", 1, x.see(0, 0, 1));
        due("seen by 1", 3, x.see(1, 0, 1));
        due("the table", 4, x.see(-1, 0, 1));
        due("again", 0, x.sweep());
        x.roll(0);
        due("that of 1", 1, x.sweep());
        x.roll(1);
        due("that of 3", 1, x.sweep());
        due("versions", 48, x.count(3));
        Check.commit(x, Check.row(0));
        due("an erased one stays", 1, x.sweep());
        due("versions", 48, x.count(3));
    }

    private static void sweepKeepsScans() {
        LateIndex x = new LateIndex();
        Check.commit(x, Check.row(40, 1, 1, 1));
        Check.build(x, 0, "index a");
        Check.commit(x, Check.row(40, 2, 2, 2));
        Check.commit(x, Check.row(40, 3, 3, 3));
        due("those that the scan doesn't see", 2, x.sweep());
        due("catching up", 2, x.work(0, 48));
        due("as it was", 1, x.entry(0, 0, 1));
        due("the scan is over", 1, x.sweep());
    }
}
