/** Promises 32 to 35: undo, images and counts. */
public final class BackTest {
    private static final Check CHECK = new Check("back");

    public static void main(String[] args) {
        undo();
        whatCounts();
        whatDoesNotCount();
        eachIsUndone();
        eldestAreForgotten();
        imageAndRestore();
        count();
        CHECK.close();
    }

    private static void due(String call, int want, int got) {
        CHECK.due(call, want, got);
    }

    private static void undo() {
        LateIndex x = new LateIndex();
        due("none", -3, x.undo(1));
        x.begin(0);
        x.put(0, 1, 1, 1, 1);
        x.put(0, 1, 2, 2, 2);
        due("n", -3, x.undo(0));
        due("n", -3, x.undo(-1));
        due("n", -3, x.undo(9));
        due("more than can be", -3, x.undo(4));
        due("one", 2, x.undo(1));
        due("as it was", 1, x.see(0, 1, 1));
        x.commit(0);
        due("commit and put", 1, x.undo(2));
        CHECK.dueAll("as it was", "1, 0, 0", x.count(2), x.count(10), x.count(1));
        due("all", 0, x.undo(1));
        due("not open", 0, x.count(2));
        due("none", -3, x.undo(1));
    }

    private static void whatCounts() {
        LateIndex x = new LateIndex();
        x.begin(0);
        due("begin", 1, x.count(6));
        x.put(0, 0, 0, 0, 0);
        due("put", 2, x.count(6));
        x.erase(0, 5);
        due("erase", 3, x.count(6));
        x.commit(0);
        due("commit", 4, x.count(6));
        x.begin(0);
        x.roll(0);
        due("roll", 6, x.count(6));
        x.sweep();
        due("sweep", 7, x.count(6));
        x.undo(7);
        x.sweep();
        due("a sweep of nothing", 1, x.count(6));
        x.terms(0, 3);
        due("a term as it was", 2, x.count(6));
        Check.build(x, 0, "index a unique");
        due("build", 3, x.count(6));
        x.begin(0);
        x.put(0, 1, 1, 1, 1);
        due("two more", 5, x.count(6));
        x.work(0, 49);
        due("work", 6, x.count(6));
        due("a commit that waits", 0, x.commit(0));
        due("it counts", 7, x.count(6));
        x.giveUp(0);
        due("giveUp", 8, x.count(6));
        LateIndex y = new LateIndex();
        Check.commit(y, Check.row(0, 1, 1, 1), Check.row(1, 1, 1, 1));
        Check.ready(y, 1, "index a unique");
        due("before", 6, y.count(6));
        y.takeUp(1);
        due("takeUp", 7, y.count(6));
        y.undo(1);
        due("alike again", 5, y.index(1, 0));
    }

    private static void whatDoesNotCount() {
        LateIndex x = new LateIndex();
        x.begin(0);
        x.begin(0);
        x.put(1, 0, 0, 0, 0);
        x.put(0, 0, 0, 0, 100);
        x.erase(1, 0);
        x.commit(1);
        x.roll(1);
        x.terms(0, 21);
        x.terms(2, 1);
        x.build(0, 0);
        x.work(0, 1);
        x.takeUp(0);
        x.giveUp(0);
        due("refused ones", 1, x.count(6));
        Check.query(x, "find");
        x.find(-1);
        x.see(0, 0, 0);
        x.image(0);
        x.feed(0, 0, 0, 0, 0);
        x.undo(5);
        due("those that only ask", 1, x.count(6));
    }

    private static void eachIsUndone() {
        LateIndex x = new LateIndex();
        Check.commit(x, Check.row(0, 1, 2, 3), Check.row(1, 1, 2, 3));
        Check.build(x, 0, "index a where b = 2");
        Check.commit(x, Check.row(0, 4, 5, 6));
        x.image(1);
        x.work(0, 47);
        x.work(0, 2);
        due("take done", 1, x.index(0, 1));
        x.undo(1);
        CHECK.dueAll("a scan again", "1, 2, 47, 0, 1, 0, 1", x.index(0, 0), x.index(0, 1), x.index(0, 2), x.index(0, 3),
            x.index(0, 4), x.index(0, 5), x.index(0, 6));
        x.undo(1);
        CHECK.dueAll("at its beginning", "1, 0, 0", x.index(0, 0), x.index(0, 1), x.index(0, 2));
        due("the log stays", 1, x.index(0, 4));
        x.undo(1);
        CHECK.dueAll("the commit", "0, 1, 1, 1", x.index(0, 4), x.count(1), x.see(-1, 0, 1), x.count(13));
        x.restore(1);
        x.terms(0, 9);
        x.terms(1, 9);
        x.giveUp(0);
        x.undo(1);
        CHECK.dueAll("its definition", "1, 0, 1, 0, 2, 0", x.index(0, 8), x.index(0, 9), x.index(0, 12), x.index(0, 13),
            x.index(0, 14), x.index(0, 15));
        x.undo(2);
        CHECK.dueAll("terms", "3, 5", x.count(7), x.count(8));
        x.sweep();
        due("swept", 49, x.count(3));
        x.undo(1);
        due("versions", 51, x.count(3));
    }

    private static void eldestAreForgotten() {
        LateIndex x = new LateIndex();
        for (int v = 0; v <= 20; v++) {
            x.terms(0, v);
        }
        due("eight", 8, x.count(6));
        due("three", 5, x.undo(3));
        due("short", 17, x.count(7));
        x.terms(0, 1);
        due("six", 6, x.count(6));
        due("all six", 0, x.undo(6));
        due("short", 12, x.count(7));
        due("the eldest are forgotten", -3, x.undo(1));
    }

    private static void imageAndRestore() {
        LateIndex x = new LateIndex();
        due("image", -2, x.image(2));
        due("image", -2, x.image(-1));
        due("restore", -2, x.restore(2));
        due("none was made", -6, x.restore(0));
        Check.commit(x, Check.row(3, 1, 2, 3));
        Check.ready(x, 1, "index a");
        x.begin(2);
        x.put(2, 4, 4, 4, 4);
        due("make", 0, x.image(1));
        due("none was made", -6, x.restore(0));
        due("undo goes on", 6, x.undo(1));
        due("no writes", 0, x.count(12));
        due("make", 0, x.image(0));
        x.roll(2);
        x.giveUp(1);
        x.terms(1, 8);
        Check.commit(x, Check.row(3));
        x.sweep();
        Check.tape(x, "find");
        due("restore", 0, x.restore(1));
        CHECK.dueAll("as it was", "1, 1, 4, 49, 20, 0, 3, 5, 1, 1", x.count(0), x.count(1), x.count(2), x.count(3),
            x.count(5), x.count(6), x.count(7), x.count(8), x.count(12), x.count(22));
        due("the index", 3, x.entry(1, 0, 0));
        due("nothing can be undone", -3, x.undo(1));
        x.commit(2);
        due("one can", 1, x.count(6));
        due("the other", 0, x.restore(0));
        due("no writes", 0, x.count(12));
        due("again", 0, x.restore(1));
        due("an image isn't changed by what comes behind it", 1, x.count(12));
        x.commit(2);
        x.undo(1);
        x.image(1);
        x.commit(2);
        x.restore(1);
        due("made anew", 1, x.count(12));
    }

    private static void count() {
        LateIndex x = new LateIndex();
        int[] others = {-1, 9, 14, 19, 24, Integer.MIN_VALUE, Integer.MAX_VALUE};
        for (int what : others) {
            due("count " + what, -1, x.count(what));
        }
        Check.commit(x, Check.row(1, 1, 1, 1), Check.row(2, 1, 1, 1), Check.row(3));
        x.begin(1);
        x.begin(3);
        x.put(3, 9, 9, 9, 9);
        x.erase(3, 9);
        x.erase(3, 1);
        x.terms(0, 7);
        x.terms(1, 6);
        x.feed(0, 0, 0, 0, 0);
        CHECK.dueAll("counts", "2, 1, 10, 51, 0, 20, 8, 7, 6", x.count(0), x.count(1), x.count(2), x.count(3), x.count(4),
            x.count(5), x.count(6), x.count(7), x.count(8));
        CHECK.dueAll("writes", "0, 0, 0, 2", x.count(10), x.count(11), x.count(12), x.count(13));
        CHECK.dueAll("snaps", "-1, 1, -1, 1", x.count(20), x.count(21), x.count(22), x.count(23));
        x.build(0, 0);
        Check.build(x, 0, "index a");
        x.work(0, 49);
        due("waits", 1, x.count(4));
    }
}
