/** Promises 10 to 12 and the texts of 24: the tape, definitions, queries and their faults. */
public final class DefinitionsTest {
    private static final Check CHECK = new Check("definitions");

    public static void main(String[] args) {
        feed();
        build();
        faultsOfDefinitions();
        goodDefinitions();
        faultsOfQueries();
        goodQueries();
        wordsLetterByLetter();
        fault();
        CHECK.close();
    }

    private static void due(String call, int want, int got) {
        CHECK.due(call, want, got);
    }

    private static void feed() {
        LateIndex x = new LateIndex();
        for (int k = 1; k <= 5; k++) {
            due("feed", 20 * k, x.feed(0, 0, 0, 0, 0));
        }
        due("a sixth", -4, x.feed(0, 0, 0, 0, 0));
        due("bytes", 100, x.count(5));
        due("its bytes are not blanks", -31, x.build(0, 100));
        due("place", 0, x.fault(1));
        due("empty", 0, x.count(5));
        x.feed(0x696e6465, 0x78206120, 0x20202020, 0x20202020, 0x20202020);
        x.feed(0x20202020, 0x20202020, 0x20202020, 0x20202020, 0x202020ff);
        due("a high byte", -31, x.build(0, 40));
        due("its place", 39, x.fault(1));
    }

    private static void build() {
        LateIndex x = new LateIndex();
        Check.tape(x, "index a");
        due("index", -2, x.build(-1, 7));
        due("index", -2, x.build(2, 700));
        due("n", -3, x.build(0, -1));
        due("n", -3, x.build(0, 21));
        due("the tape stays", 20, x.count(5));
        Check.commit(x, Check.row(1, 1, 1, 1));
        due("begins", 1, x.build(0, 7));
        due("the tape is empty", 0, x.count(5));
        CHECK.dueAll("a scan", "1, 0, 0, 0, 0, 0, 1", x.index(0, 0), x.index(0, 1), x.index(0, 2), x.index(0, 3),
            x.index(0, 4), x.index(0, 5), x.index(0, 6));
        Check.tape(x, "index b");
        due("n ahead of state", -3, x.build(0, 21));
        due("state", -5, x.build(0, 7));
        due("the tape stays", 20, x.count(5));
        due("the other", 1, x.build(1, 7));
        due("calls to undo", 5, x.count(6));
        due("a fault undoes nothing", -31, new LateIndex().build(0, 0));
        x.giveUp(0);
        due("ended", 1, x.index(0, 15));
        due("of no byte", -31, x.build(0, 0));
        due("still", 1, x.index(0, 15));
        due("calls to undo", 6, x.count(6));
        due("anew", 1, Check.build(x, 0, "index c"));
        due("ended", 0, x.index(0, 15));
    }

    private static void faulty(boolean query, String text, int kind, int place) {
        LateIndex x = new LateIndex();
        int n = Check.tape(x, text);
        int answer = query ? x.query(n) : x.build(0, n);
        CHECK.dueAll("'" + text + "'", (-30 - kind) + ", " + kind + ", " + place, answer, x.fault(0), x.fault(1));
        due("tape of '" + text + "'", 0, x.count(5));
        due("calls of '" + text + "'", 0, x.count(6));
    }

    private static void faultsOfDefinitions() {
        String[] texts = {
            "", "   ", "ind a", "index", "index ", "indexa", "Index a", "index d", "index ab", "index aa", "index 5",
            "index a b", "index a,", "index a, ", "index ,a", "index a,,b", "index a desc desc", "index adesc",
            "index a asc", "index a desc b", "index a unique unique", "index a unique, b", "index a unique desc",
            "index a where", "index a where d = 1", "index a where a", "index a where a 5", "index a where a == 5",
            "index a where a =", "index a where a = x", "index a where a <> 5", "index a where a=5 unique",
            "index a where a=5 5", "index a where a=5,b", "index a where a=5 and b=5", "index a where a=-1",
            "index a;", "index a.", "index\ta", "index a where a = 5\0", "index a where 100 = a", "index a 100",
            "index a unique where b! 1x", "index a descunique", "\u00ff", "index a where desc = 1"};
        int[] places = {
            0, 3, 0, 5, 6, 0, 0, 6, 6, 6, 6,
            8, 8, 9, 6, 8, 13, 6,
            8, 13, 15, 14, 15,
            13, 14, 15, 16, 17,
            17, 18, 17, 18,
            18, 17, 18, 16,
            7, 7, 5, 19, 14, 8,
            25, 8, 0, 14};
        due("as many", texts.length, places.length);
        for (int k = 0; k < texts.length; k++) {
            faulty(false, texts[k], 1, places[k]);
        }
        faulty(false, "index a where a = 100", 2, 18);
        faulty(false, "index a where a=000", 2, 16);
        faulty(false, "index a where a=9999999999999999999 unique", 2, 16);
        faulty(false, "index a where b>123x", 2, 16);
        faulty(false, "index a,a", 3, 8);
        faulty(false, "index a , b desc , a", 3, 19);
        faulty(false, "index a,b,c,b", 3, 12);
        faulty(false, "index a,b,a where a=100", 3, 10);
        faulty(false, "index a,b,c,", 1, 12);
        faulty(false, "index a,b,c,x", 1, 12);
    }

    private static void good(String text, String want) {
        LateIndex x = new LateIndex();
        due("'" + text + "'", 0, Check.build(x, 1, text));
        int[] told = new int[8];
        for (int k = 0; k < 8; k++) {
            told[k] = x.index(1, 7 + k);
        }
        CHECK.dueAll("'" + text + "'", want, told);
        due("fault", 0, x.fault(0));
        due("place", -1, x.fault(1));
    }

    private static void goodDefinitions() {
        good("index a", "0, 1, 0, -1, -1, -1, 0, 0");
        good("  index   c  ", "0, 1, 2, -1, -1, -1, 0, 0");
        good("index b desc", "0, 1, 11, -1, -1, -1, 0, 0");
        good("index a,b,c", "0, 3, 0, 1, 2, -1, 0, 0");
        good("index c desc,b,a desc unique", "1, 3, 12, 1, 10, -1, 0, 0");
        good("index a unique", "1, 1, 0, -1, -1, -1, 0, 0");
        good("index a where a=0", "0, 1, 0, -1, -1, 0, 0, 0");
        good("index a where b!07", "0, 1, 0, -1, -1, 1, 1, 7");
        good("index a , b unique where c < 99 ", "1, 2, 0, 1, -1, 2, 2, 99");
        good("index a desc where a>5", "0, 1, 10, -1, -1, 0, 3, 5");
        good("index a,b where a > 10", "0, 2, 0, 1, -1, 0, 3, 10");
    }

    private static void faultsOfQueries() {
        String[] texts = {
            "", "fin", "finda", "find d=1", "find a", "find a=", "find a=1 and", "find a=1 or b=2", "find a=1 b=2",
            "find and a=1", "find a=1,b=1", "find order", "find order d", "find order a,", "find order a b",
            "find order a desc desc", "find order a and b=1", "find a=1 order a order b", "find order 5",
            "find a=1 and order a", "find a=1 and and b=1", "find a ! < 5", "find a=1 and a=2 and a=3 and a=4 and x",
            "find a=1 and a=2 and a=3 and a=4 and", "find a=1 and a=2 and a=3 and a=4 or a=5", "find ab=1", "find a=5.",
            "find a=1 and a=2 and a=3 and a=4 and order a"};
        int[] places = {
            0, 0, 0, 5, 6, 7, 12, 9, 9,
            5, 8, 10, 11, 13, 13,
            18, 13, 17, 11,
            13, 13, 9, 37,
            36, 33, 5, 8,
            37};
        due("as many", texts.length, places.length);
        for (int k = 0; k < texts.length; k++) {
            faulty(true, texts[k], 1, places[k]);
        }
        faulty(true, "find a=1 and b<100", 2, 15);
        faulty(true, "find a=123 and", 2, 7);
        faulty(true, "find order a,a", 3, 13);
        faulty(true, "find order c desc, a, b, c desc", 3, 25);
        faulty(true, "find a=1 and a=1 and a=1 and a=1 and b=1", 4, 37);
        faulty(true, "find a=1and a=1and a=1and a=1and  c", 4, 34);
        faulty(true, "find a=1 and b=1 and c=1 and a=1 and a=100", 4, 37);
    }

    private static void goodQueries() {
        LateIndex x = new LateIndex();
        due("find", 0, Check.query(x, "find"));
        due("order alone", 0, Check.query(x, " find order a desc , b,c "));
        due("one", 1, Check.query(x, "find a=1"));
        due("two, close", 2, Check.query(x, "find a=1and b!22order c"));
        due("again", 4, Check.query(x, "find a=1 and a=1 and a<99 and a>0 order a"));
        due("three", 3, Check.query(x, "find c ! 5 and b < 6 and a > 7"));
    }

    /** Every word counts to its last letter, and no letter more. */
    private static void wordsLetterByLetter() {
        String[] definition = {"", "index", " a ", "desc", " ", "unique", " ", "where", " a=1"};
        String[] question = {"", "find", " a=1 ", "and", " b=2 ", "order", " a ", "desc", ""};
        for (int w = 1; w < definition.length; w += 2) {
            eachLetterWrong(false, definition, w);
            eachLetterWrong(true, question, w);
        }
    }

    private static void eachLetterWrong(boolean query, String[] parts, int w) {
        String word = parts[w];
        int place = String.join("", java.util.Arrays.asList(parts).subList(0, w)).length();
        for (int k = 0; k < word.length(); k++) {
            faultyAt(query, parts, w, word.substring(0, k) + 'z' + word.substring(k + 1), place);
        }
        faultyAt(query, parts, w, word + "z", place);
        faultyAt(query, parts, w, word.substring(0, word.length() - 1), place);
    }

    private static void faultyAt(boolean query, String[] parts, int w, String word, int place) {
        String[] spoiled = parts.clone();
        spoiled[w] = word;
        faulty(query, String.join("", spoiled), 1, place);
    }

    private static void fault() {
        LateIndex x = new LateIndex();
        CHECK.dueAll("at first", "0, -1, -1, -1", x.fault(0), x.fault(1), x.fault(2), x.fault(-1));
        Check.query(x, "find a = 100");
        CHECK.dueAll("a query's", "2, 9", x.fault(0), x.fault(1));
        x.build(0, 1);
        x.build(7, 0);
        x.query(-1);
        CHECK.dueAll("those that leave the tape", "2, 9", x.fault(0), x.fault(1));
        x.query(0);
        CHECK.dueAll("of no byte", "1, 0", x.fault(0), x.fault(1));
        Check.tape(x, "  index a");
        x.query(0);
        CHECK.dueAll("none of its bytes", "1, 0", x.fault(0), x.fault(1));
        Check.build(x, 0, "index a");
        CHECK.dueAll("none", "0, -1", x.fault(0), x.fault(1));
        x.build(0, 0);
        CHECK.dueAll("its state isn't 0", "0, -1", x.fault(0), x.fault(1));
        Check.build(x, 1, "index b,b");
        x.undo(1);
        CHECK.dueAll("it isn't undone", "3, 8", x.fault(0), x.fault(1));
    }
}
