import java.util.ArrayList;
import java.util.List;
import java.util.Random;

/**
 * Runs of 512 calls, drawn from fixed seeds, on LateIndex and on the Model side by side: every answer is compared.
 * Each run has a mood of its own, so that some come to long logs, some to full rows, some to alike keys.
 */
public final class RandomRunsTest {
    private static final int RUNS = 1500;
    private static final int CALLS = 512;
    private static final String[] NAMES = {
        "begin", "put", "erase", "commit", "why", "roll", "see", "sweep", "feed", "build", "fault", "work", "takeUp",
        "giveUp", "terms", "index", "entry", "logged", "ahead", "same", "reads", "by", "query", "find", "found", "plan",
        "far", "alike", "units", "free", "undo", "image", "restore", "count"};
    private static final int[] ARGS = {
        1, 5, 2, 1, 0, 1, 3, 0, 5, 2, 1, 2, 1, 1, 2, 2, 3, 4, 4, 4, 2, 1, 1, 1, 2, 1, 1, 3, 2, 0, 1, 1, 1, 1};

    private final Random random;
    private final LateIndex x = new LateIndex();
    private final Model m = new Model();
    private final List<String> told = new ArrayList<>();
    private final int rows;
    private final int numbers;
    private final int wildness;
    private final int backwards;
    private final int workLength;
    private int calls;

    private RandomRunsTest(long seed) {
        random = new Random(seed);
        rows = new int[] {3, 8, 20, 48}[random.nextInt(4)];
        numbers = new int[] {2, 4, 12, 100}[random.nextInt(4)];
        wildness = new int[] {400, 60, 8}[random.nextInt(3)];
        backwards = new int[] {1000, 150, 40}[random.nextInt(3)];
        workLength = new int[] {5, 60, 200}[random.nextInt(3)];
    }

    public static void main(String[] args) {
        int runs = args.length > 1 ? Integer.parseInt(args[1]) : RUNS;
        int[] states = new int[6];
        int[] whys = new int[5];
        for (int seed = 0; seed < runs; seed++) {
            RandomRunsTest run = new RandomRunsTest(seed);
            if (!run.goes(states, whys)) {
                System.out.println("seed " + seed + ", the latest calls:");
                int from = Math.max(0, run.told.size() - 40);
                run.told.subList(from, run.told.size()).forEach(System.out::println);
                System.exit(1);
            }
        }
        System.out.println("random runs: " + runs + " runs, states met " + java.util.Arrays.toString(states) + ", whys met "
            + java.util.Arrays.toString(whys));
        for (int k = 0; k < 11; k++) {
            if ((k < 6 ? states[k] : whys[k - 6]) == 0) {
                System.out.println("random runs: not every state and why was met");
                System.exit(1);
            }
        }
    }

    private boolean goes(int[] states, int[] whys) {
        while (calls < CALLS) {
            if (!step()) {
                return false;
            }
            states[m.index(0, 0)]++;
            whys[m.why()]++;
        }
        return agreesOnAll();
    }

    private boolean agreesOnAll() {
        boolean agrees = true;
        for (int row = 0; row < 48; row++) {
            for (int what = 0; what < 4; what++) {
                agrees &= call("see", -1, row, what);
            }
        }
        for (int i = 0; i < 2; i++) {
            for (int what = 0; what < 16; what++) {
                agrees &= call("index", i, what);
            }
            for (int k = 0; k < 121; k++) {
                for (int what = 0; what < 4; what++) {
                    agrees &= call("entry", i, k, what);
                    agrees &= call("logged", i, 0, k, what);
                    agrees &= call("logged", i, 1, k, what + 1);
                }
            }
        }
        return agrees;
    }

    private int t() {
        return random.nextInt(4);
    }

    private int row() {
        return random.nextInt(rows);
    }

    private int number() {
        return random.nextInt(numbers);
    }

    private int i() {
        return random.nextInt(3) == 0 ? 1 : 0;
    }

    private boolean step() {
        if (random.nextInt(wildness) == 0) {
            return wild();
        }
        if (random.nextInt(backwards) == 0) {
            return back();
        }
        switch (random.nextInt(12)) {
            case 0: return call("begin", t());
            case 1: return call("put", t(), row(), number(), number(), number());
            case 2: return random.nextInt(4) == 0 ? call("erase", t(), row()) : call("commit", t());
            case 3: return change();
            case 4: return change();
            case 5: return random.nextInt(3) == 0 ? call("sweep") : call("see", random.nextInt(5) - 1, row(), random.nextInt(4));
            case 6: return anIndex();
            case 7: return call("work", i(), 1 + random.nextInt(workLength));
            case 8: return askIndex();
            case 9: return askQuery();
            case 10: return call("units", i(), random.nextInt(6)) && call("far", i());
            default: return call("count", random.nextInt(24)) && call("why") && call("free");
        }
    }

    /** A whole transaction, so that rows really change. */
    private boolean change() {
        int t = t();
        boolean agrees = call("begin", t);
        int many = random.nextInt(9);
        for (int k = 0; k < many; k++) {
            agrees &= random.nextInt(6) == 0 ? call("erase", t, row()) : call("put", t, row(), number(), number(), number());
        }
        return agrees && call("commit", t) && call("why");
    }

    private boolean back() {
        switch (random.nextInt(4)) {
            case 0: return call("image", random.nextInt(2));
            case 1: return call("restore", random.nextInt(2));
            default: return call("undo", 1 + random.nextInt(9));
        }
    }

    private boolean anIndex() {
        switch (random.nextInt(8)) {
            case 0: return call("takeUp", i());
            case 1: return random.nextInt(4) != 0 || call("giveUp", i());
            case 2: return call("terms", random.nextInt(2), random.nextInt(10));
            case 3: return call("takeUp", i());
            default: return text(definition(), true);
        }
    }

    private boolean askIndex() {
        int i = i();
        switch (random.nextInt(7)) {
            case 0: return call("index", i, random.nextInt(16));
            case 1: return call("entry", i, random.nextInt(10), random.nextInt(4));
            case 2: return call("logged", i, random.nextInt(2), random.nextInt(10), random.nextInt(5));
            case 3: return call("ahead", i, number(), number(), number());
            case 4: return call("same", i, number(), number(), number());
            case 5: return call("reads", random.nextInt(3), number()) && call("by", random.nextInt(3));
            default: return call("alike", i, random.nextInt(4) - 1, random.nextInt(4)) && call("alike", i, -1, 0);
        }
    }

    private boolean askQuery() {
        switch (random.nextInt(4)) {
            case 0: return text(question(), false);
            case 1: return call("find", random.nextInt(5) - 1);
            case 2: return call("found", random.nextInt(5) - 1, random.nextInt(8));
            default:
                boolean agrees = true;
                for (int what = 0; what < 5; what++) {
                    agrees &= call("plan", what);
                }
                return agrees;
        }
    }

    /** Any call with any numbers. */
    private boolean wild() {
        int k = random.nextInt(NAMES.length);
        int[] args = new int[ARGS[k]];
        for (int a = 0; a < args.length; a++) {
            switch (random.nextInt(6)) {
                case 0: args[a] = random.nextInt(); break;
                case 1: args[a] = new int[] {Integer.MIN_VALUE, Integer.MAX_VALUE, -2, -1, 48, 100, 201}[random.nextInt(7)]; break;
                default: args[a] = random.nextInt(6) - 2; break;
            }
        }
        return call(NAMES[k], args);
    }

    private String blanks() {
        return random.nextInt(8) == 0 ? "  " : "";
    }

    private String column() {
        return random.nextInt(60) == 0 ? "d" : "" + (char) ('a' + random.nextInt(3));
    }

    private String condition() {
        String number = random.nextInt(80) == 0 ? "100" : "" + number();
        return column() + blanks() + "=!<>".charAt(random.nextInt(4)) + blanks() + number;
    }

    private String keys() {
        StringBuilder b = new StringBuilder();
        String letters = new String[] {"abc", "acb", "bac", "bca", "cab", "cba"}[random.nextInt(6)];
        int many = 1 + random.nextInt(3);
        for (int k = 0; k < many; k++) {
            b.append(k > 0 ? "," : "").append(blanks());
            b.append(random.nextInt(60) == 0 ? column() : letters.substring(k, k + 1));
            b.append(random.nextInt(3) == 0 ? " desc" : "").append(blanks());
        }
        return b.toString();
    }

    private String definition() {
        String text = blanks() + "index " + keys() + (random.nextInt(2) == 0 ? " unique" : "");
        return spoiled(text + (random.nextInt(3) == 0 ? " where " + condition() : ""));
    }

    private String question() {
        StringBuilder b = new StringBuilder(blanks() + "find");
        int many = random.nextInt(random.nextInt(10) == 0 ? 6 : 5);
        for (int k = 0; k < many; k++) {
            b.append(k > 0 ? " and " : " ").append(condition());
        }
        b.append(random.nextInt(2) == 0 ? " order " + keys() : "");
        return spoiled(b.toString());
    }

    private String spoiled(String text) {
        if (random.nextInt(6) != 0) {
            return text;
        }
        int k = random.nextInt(text.length());
        switch (random.nextInt(4)) {
            case 0: return text.substring(0, k);
            case 1: return text.substring(0, k) + text.substring(k + 1);
            case 2: return text.substring(0, k) + "abc,=!<>019 ;\u00e9".charAt(random.nextInt(14)) + text.substring(k);
            default: return text + " " + new String[] {"desc", "unique", "and", "order a", ", b", "where a=1"}[random.nextInt(6)];
        }
    }

    private boolean text(String text, boolean definition) {
        String cut = text.substring(0, Math.min(100, text.length()));
        boolean agrees = true;
        for (int k = 0; k < cut.length(); k += 20) {
            int[] five = new int[5];
            for (int j = 0; j < 20; j++) {
                five[j / 4] = five[j / 4] << 8 | (k + j < cut.length() ? cut.charAt(k + j) : random.nextInt(256));
            }
            agrees &= call("feed", five);
        }
        agrees &= definition ? call("build", i(), cut.length()) : call("query", cut.length());
        return agrees && call("fault", 0) && call("fault", 1);
    }

    private boolean call(String name, int... a) {
        calls++;
        int want = ofModel(name, a);
        int got = ofClass(name, a);
        StringBuilder b = new StringBuilder(name).append(java.util.Arrays.toString(a)).append(" = ").append(got);
        told.add(want == got ? b.toString() : b.append(", due is ").append(want).toString());
        return want == got;
    }

    private int ofClass(String name, int[] a) {
        switch (name) {
            case "begin": return x.begin(a[0]);
            case "put": return x.put(a[0], a[1], a[2], a[3], a[4]);
            case "erase": return x.erase(a[0], a[1]);
            case "commit": return x.commit(a[0]);
            case "why": return x.why();
            case "roll": return x.roll(a[0]);
            case "see": return x.see(a[0], a[1], a[2]);
            case "sweep": return x.sweep();
            case "feed": return x.feed(a[0], a[1], a[2], a[3], a[4]);
            case "build": return x.build(a[0], a[1]);
            case "fault": return x.fault(a[0]);
            case "work": return x.work(a[0], a[1]);
            case "takeUp": return x.takeUp(a[0]);
            case "giveUp": return x.giveUp(a[0]);
            case "terms": return x.terms(a[0], a[1]);
            case "index": return x.index(a[0], a[1]);
            case "entry": return x.entry(a[0], a[1], a[2]);
            case "logged": return x.logged(a[0], a[1], a[2], a[3]);
            case "ahead": return x.ahead(a[0], a[1], a[2], a[3]);
            case "same": return x.same(a[0], a[1], a[2], a[3]);
            case "reads": return x.reads(a[0], a[1]);
            case "by": return x.by(a[0]);
            case "query": return x.query(a[0]);
            case "find": return x.find(a[0]);
            case "found": return x.found(a[0], a[1]);
            case "plan": return x.plan(a[0]);
            case "far": return x.far(a[0]);
            case "alike": return x.alike(a[0], a[1], a[2]);
            case "units": return x.units(a[0], a[1]);
            case "free": return x.free();
            case "undo": return x.undo(a[0]);
            case "image": return x.image(a[0]);
            case "restore": return x.restore(a[0]);
            case "count": return x.count(a[0]);
            default: throw new IllegalArgumentException(name);
        }
    }

    private int ofModel(String name, int[] a) {
        switch (name) {
            case "begin": return m.begin(a[0]);
            case "put": return m.put(a[0], a[1], a[2], a[3], a[4]);
            case "erase": return m.erase(a[0], a[1]);
            case "commit": return m.commit(a[0]);
            case "why": return m.why();
            case "roll": return m.roll(a[0]);
            case "see": return m.see(a[0], a[1], a[2]);
            case "sweep": return m.sweep();
            case "feed": return m.feed(a[0], a[1], a[2], a[3], a[4]);
            case "build": return m.build(a[0], a[1]);
            case "fault": return m.fault(a[0]);
            case "work": return m.work(a[0], a[1]);
            case "takeUp": return m.takeUp(a[0]);
            case "giveUp": return m.giveUp(a[0]);
            case "terms": return m.terms(a[0], a[1]);
            case "index": return m.index(a[0], a[1]);
            case "entry": return m.entry(a[0], a[1], a[2]);
            case "logged": return m.logged(a[0], a[1], a[2], a[3]);
            case "ahead": return m.ahead(a[0], a[1], a[2], a[3]);
            case "same": return m.same(a[0], a[1], a[2], a[3]);
            case "reads": return m.reads(a[0], a[1]);
            case "by": return m.by(a[0]);
            case "query": return m.query(a[0]);
            case "find": return m.find(a[0]);
            case "found": return m.found(a[0], a[1]);
            case "plan": return m.plan(a[0]);
            case "far": return m.far(a[0]);
            case "alike": return m.alike(a[0], a[1], a[2]);
            case "units": return m.units(a[0], a[1]);
            case "free": return m.free();
            case "undo": return m.undo(a[0]);
            case "image": return m.image(a[0]);
            case "restore": return m.restore(a[0]);
            case "count": return m.count(a[0]);
            default: throw new IllegalArgumentException(name);
        }
    }
}
