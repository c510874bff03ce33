/** The edges that promises 10 to 12 and 24 name, and the sentences on texts and their FAULTS that they rest on. */
public final class TextEdgesTest {
    private static final Check CHECK = new Check("text edges");

    public static void main(String[] args) {
        feedBytes();
        feedPlaces();
        buildFirstBytes();
        buildBegins();
        columns();
        ops();
        numbers();
        moreDigits();
        toldAlready();
        blanks();
        words();
        signsBesideLetters();
        theEnd();
        firstAlongTheText();
        fault();
        queryFirstBytes();
        conditions();
        fifthCondition();
        keys();
        queryFaults();
        CHECK.close();
    }

    private static void due(String call, int want, int got) {
        CHECK.due(call, want, got);
    }

    /** What a text answers as a DEFINITION, with its FAULT's place. */
    private static void definition(String text, int answer, int place) {
        LateIndex x = new LateIndex();
        CHECK.dueAll("'" + text + "'", answer + ", " + place, Check.build(x, 1, text), x.fault(1));
        CHECK.dueAll("fault, state, bytes left of '" + text + "'", (answer < 0 ? -30 - answer : 0) + ", " + (answer < 0 ? 0 : 1)
            + ", 0", x.fault(0), x.index(1, 0), x.count(5));
    }

    private static void goodDefinition(String text) {
        definition(text, 0, -1);
    }

    private static void query(String text, int answer, int place) {
        LateIndex x = new LateIndex();
        CHECK.dueAll("'" + text + "'", answer + ", " + place, Check.query(x, text), x.fault(1));
        CHECK.dueAll("fault, find, bytes left of '" + text + "'", (answer < 0 ? -30 - answer : 0) + ", " + (answer < 0 ? -5 : 0)
            + ", 0", x.fault(0), x.find(-1), x.count(5));
    }

    private static void feedBytes() {
        CHECK.of("10: Twenty bytes come behind those on THE TAPE: how many it has, up to 100");
        LateIndex x = new LateIndex();
        for (int k = 1; k <= 5; k++) {
            CHECK.dueAll("feed, count(5)", 20 * k + ", " + 20 * k, x.feed(-1, 0, Integer.MIN_VALUE, 1, 32), x.count(5));
        }
        CHECK.of("10: -4: it would have more than 100");
        CHECK.dueAll("feed, count(5)", "-4, 100", x.feed(0, 0, 0, 0, 0), x.count(5));
        CHECK.of("10: there is room again once it is empty");
        x.query(0);
        due("feed", 20, x.feed(0, 0, 0, 0, 0));
        CHECK.of("10: the highest of each int first, be it above 127");
        LateIndex y = new LateIndex();
        y.feed(0x696e6465, 0x78206120, 0xff202020, 0x20202020, 0x20202020);
        CHECK.dueAll("a byte 255 is no blank", "-31, 8", y.build(0, 20), y.fault(1));
        y.feed(0x696e6465, 0x78206120, 0x20202020, 0x20202020, 0x202020a0);
        CHECK.dueAll("nor is 160", "-31, 19", y.build(0, 20), y.fault(1));
        y.feed(0x696e6465, 0x78206120, 0x2020202c, 0x62202020, 0x20202020);
        due("its bytes in their order", 0, y.build(0, 20));
        CHECK.dueAll("columns", "2, 0, 1", y.index(0, 8), y.index(0, 9), y.index(0, 10));
    }

    private static void feedPlaces() {
        CHECK.of("10: Twenty bytes come behind those on THE TAPE: each of the hundred at its place");
        String text = "index a" + " ".repeat(93);
        for (int k = 7; k < 100; k++) {
            definition(text.substring(0, k) + ";" + text.substring(k + 1), -31, k);
        }
        CHECK.of("10, 11: a DEFINITION of just 100 bytes");
        goodDefinition(text);
        goodDefinition(" ".repeat(93) + "index a");
        CHECK.of("11: FAULTS: the end: how many bytes there are: 100");
        definition(" ".repeat(100), -31, 100);
        definition(" ".repeat(95) + "index", -31, 100);
        definition("index a where a=9" + " ".repeat(80) + "999", -31, 97);
    }

    private static void buildFirstBytes() {
        CHECK.of("11: The first n bytes of THE TAPE are the DEFINITION: not one more");
        LateIndex x = new LateIndex();
        Check.tape(x, "index a,b where a=123");
        CHECK.dueAll("build", "0, 1, -1", x.build(0, 7), x.index(0, 8), x.index(0, 12));
        due("(which is empty then)", 0, x.count(5));
        Check.tape(x, "index a where a=123");
        CHECK.dueAll("a number cut to two digits", "0, 12", x.build(1, 18), x.index(1, 14));
        CHECK.of("11: n is all that there is");
        LateIndex y = new LateIndex();
        y.feed(0x20202020, 0x20202020, 0x20202020, 0x20696e64, 0x65782061);
        due("build", 0, y.build(0, 20));
        CHECK.of("11: n is 0: no byte, though THE TAPE has some (it is empty then)");
        Check.tape(y, "index a");
        CHECK.dueAll("build, fault, place, bytes, state", "-31, 1, 0, 0, 0", y.build(1, 0), y.fault(0), y.fault(1), y.count(5),
            y.index(1, 0));
        CHECK.of("11: n is 0: no byte, be the first of THE TAPE a blank");
        Check.tape(y, "  index a");
        CHECK.dueAll("build, fault, place", "-31, 1, 0", y.build(1, 0), y.fault(0), y.fault(1));
        CHECK.of("11: n is 0, and THE TAPE has none");
        CHECK.dueAll("build, fault, place", "-31, 1, 0", y.build(1, 0), y.fault(0), y.fault(1));
    }

    private static void buildBegins() {
        CHECK.of("11, Terms: A BUILD begins: SCAN, its SNAP is SEQ, NEXT ROW 0, no ENTRIES, two LOGS without anything, ROUND 0");
        LateIndex x = Scene.after(Scene.versions(0, 3), Scene.inState(0, 4), y -> y.giveUp(0));
        due("build", 4, Check.build(x, 0, "index b"));
        CHECK.dueAll("index", "1, 0, 0, 0, 0, 0, 4", x.index(0, 0), x.index(0, 1), x.index(0, 2), x.index(0, 3), x.index(0, 4),
            x.index(0, 5), x.index(0, 6));
        CHECK.of("11, Terms: ENDED BY: 0 as a BUILD begins");
        CHECK.dueAll("given up, begun", "1, 0", Scene.after(Scene.inState(1, 1), y -> y.giveUp(1)).index(1, 15), x.index(0, 15));
        CHECK.of("11, Terms: INDEXES 0, 1: both at once");
        CHECK.dueAll("build, states", "4, 1, 1", Check.build(x, 1, "index b"), x.index(0, 0), x.index(1, 0));
        CHECK.of("11: its SNAP: 0, where nothing was committed");
        due("build", 0, Check.build(new LateIndex(), 1, "index b"));
    }

    private static void columns() {
        CHECK.of("11, Terms: 1 to 3 COLUMNS");
        String[] texts = {"index a", "index b,a", "index c desc,a,b desc"};
        int[] told = {0, -1, -1, 1, 0, -1, 12, 0, 11};
        for (int k = 0; k < 3; k++) {
            LateIndex x = new LateIndex();
            due(texts[k], 0, Check.build(x, 0, texts[k]));
            CHECK.dueAll("index", (k + 1) + ", " + told[3 * k] + ", " + told[3 * k + 1] + ", " + told[3 * k + 2], x.index(0, 8),
                x.index(0, 9), x.index(0, 10), x.index(0, 11));
        }
        CHECK.of("11, Terms: no COLUMN at all");
        definition("index", -31, 5);
        definition("index unique", -31, 6);
        definition("index where a=1", -31, 6);
        CHECK.of("11, Terms: COLUMNS a, b, c: the signs beside them");
        definition("index d", -31, 6);
        definition("index `", -31, 6);
        definition("index A", -31, 6);
        definition("index a,d", -31, 8);
        definition("index a where d=1", -31, 14);
        CHECK.of("11, Terms: a fourth COLUMN");
        definition("index a,b,c,a", -33, 12);
        definition("index a,b,c,", -31, 12);
    }

    private static void ops() {
        CHECK.of("11, Terms: OP one of = ! < >");
        for (int op = 0; op < 4; op++) {
            LateIndex x = new LateIndex();
            due("build", 0, Check.build(x, 0, "index a where c" + "=!<>".charAt(op) + "42"));
            CHECK.dueAll("where", "2, " + op + ", 42", x.index(0, 12), x.index(0, 13), x.index(0, 14));
        }
        CHECK.of("11, Terms: OP: the signs beside them");
        for (char sign : new char[] {' ' + 2, ';', '?', '~', '-', ','}) {
            definition("index a where c" + sign + "42", -31, 15);
        }
        CHECK.of("11, Terms: OP: two of them, none of them");
        definition("index a where c<=42", -31, 16);
        definition("index a where c 42", -31, 16);
        definition("index a where c", -31, 15);
    }

    private static void numbers() {
        CHECK.of("11, Terms: NUMBER 0 to 99 (1, 2 digits)");
        String[] texts = {"0", "9", "00", "01", "09", "10", "99"};
        int[] told = {0, 9, 0, 1, 9, 10, 99};
        for (int k = 0; k < texts.length; k++) {
            LateIndex x = new LateIndex();
            CHECK.dueAll(texts[k], "0, " + told[k], Check.build(x, 0, "index a where a>" + texts[k]), x.index(0, 14));
        }
        CHECK.of("11, Terms: NUMBER: none");
        definition("index a where a>", -31, 16);
        definition("index a where a> ", -31, 17);
        definition("index a where a>a", -31, 16);
        definition("index a where a>-1", -31, 16);
        CHECK.of("11, Terms: NUMBER: the signs beside the digits");
        definition("index a where a>/", -31, 16);
        definition("index a where a>:", -31, 16);
        definition("index a where a>5/", -31, 17);
        definition("index a where a>5:", -31, 17);
        definition("index a where a>55:", -31, 18);
    }

    private static void moreDigits() {
        CHECK.of("11, Terms: FAULT 2 a number of more digits (at it)");
        definition("index a where a = 100", -32, 18);
        definition("index a where a = 000", -32, 18);
        definition("index a where a = 099", -32, 18);
        definition("index a where a = 4294967297", -32, 18);
        definition("index a where a =" + "1".repeat(83), -32, 17);
        CHECK.of("11, Terms: FAULT 2 only where a NUMBER may stand");
        definition("index 100", -31, 6);
        definition("index a 100", -31, 8);
        definition("index a where 100", -31, 14);
        definition("index a where a=1 100", -31, 18);
        CHECK.of("24: FAULT 2 likewise");
        query("find b<99 and c>100", -32, 16);
        query("find b<99 order c 100", -31, 18);
    }

    private static void toldAlready() {
        CHECK.of("11, Terms: FAULT 3 a COLUMN told already (at it): the second and the third");
        definition("index a,a", -33, 8);
        definition("index b desc, b desc", -33, 14);
        definition("index a,b,a", -33, 10);
        definition("index a,b,b", -33, 10);
        definition("index c,b,c", -33, 10);
        CHECK.of("11, Terms: FAULT 3 (not behind where)");
        goodDefinition("index a where a=1");
        goodDefinition("index c,b,a where c=1");
    }

    private static void blanks() {
        CHECK.of("11, Terms: blanks (32) may stand between all");
        goodDefinition("   index   a   desc  ,  b  ,  c  unique   where   a   =   5   ");
        CHECK.of("11, Terms: none need stand but between letters, or between digits");
        goodDefinition("index a,b,c where a=5");
        goodDefinition("index a desc,b desc,c desc unique where a!55");
        definition("index a descunique", -31, 8);
        definition("index a uniquewhere a=1", -31, 8);
        CHECK.of("11, Terms: blanks (32): other signs aren't");
        for (char sign : new char[] {0, 9, 10, 13, 31, 33, 160}) {
            definition("index" + sign + "a", -31, 5);
            definition("index a" + sign, -31, 7);
        }
        CHECK.of("11, Terms: none within a number");
        definition("index a where a=5 5", -31, 18);
    }

    private static void words() {
        CHECK.of("11, Terms: Words are as long as a to z go on: a letter more, a letter less");
        definition("indexa", -31, 0);
        definition("indexx a", -31, 0);
        definition("inde a", -31, 0);
        definition("index aa", -31, 6);
        definition("index ab", -31, 6);
        definition("index adesc", -31, 6);
        definition("index a des", -31, 8);
        definition("index a descz", -31, 8);
        definition("index a uniqu", -31, 8);
        definition("index a uniquez", -31, 8);
        definition("index a wher a=1", -31, 8);
        definition("index a wherea=1", -31, 8);
        definition("index a where aa=1", -31, 14);
        CHECK.of("11, Terms: Words: another first letter, another last one");
        definition("jndex a", -31, 0);
        definition("indey a", -31, 0);
        definition("index a eesc", -31, 8);
        definition("index a desd", -31, 8);
        definition("index a vnique", -31, 8);
        definition("index a uniquf", -31, 8);
        definition("index a xhere a=1", -31, 8);
        definition("index a wherf a=1", -31, 8);
        CHECK.of("24: likewise");
        query("gind", -31, 0);
        query("fine", -31, 0);
        query("find a=1 bnd b=1", -31, 9);
        query("find a=1 ane b=1", -31, 9);
        query("find prder a", -31, 5);
        query("find ordes a", -31, 5);
        query("findz", -31, 0);
        query("fin", -31, 0);
        query("finda=1", -31, 0);
        query("find a=1andb=1", -31, 8);
        query("find a=1 an b=1", -31, 9);
        query("find ordera", -31, 5);
        query("find a=1 orde a", -31, 9);
        query("find order bdesc", -31, 11);
        CHECK.of("11, 24: a number ends a word, a word a number");
        goodDefinition("index a where b=5   ");
        query("find a=1and b=22order c", 2, -1);
    }

    private static void signsBesideLetters() {
        CHECK.of("11, Terms: Words: a to z, and no sign beside them");
        for (char sign : new char[] {'`', '{', 'Z', 'z' + 128}) {
            definition("index" + sign, -31, 5);
            definition("index a" + sign, -31, 7);
            definition("index a desc" + sign, -31, 12);
        }
        definition("index z", -31, 6);
        definition("index az", -31, 6);
    }

    private static void theEnd() {
        CHECK.of("11, Terms: FAULT 1 what can't stand there (the end: how many bytes there are)");
        String text = "index a desc , b unique where c = 5";
        int[] whole = {7, 8, 12, 13, 16, 17, 23, 24, 35};
        int[] elsewhere = {1, 0, 2, 0, 3, 0, 4, 0, 9, 8, 10, 8, 11, 8, 18, 17, 19, 17, 20, 17, 21, 17, 22, 17, 25, 24, 26, 24, 27, 24,
            28, 24};
        for (int n = 0; n <= text.length(); n++) {
            int place = n;
            for (int k = 0; k < elsewhere.length; k += 2) {
                place = elsewhere[k] == n ? elsewhere[k + 1] : place;
            }
            boolean good = false;
            for (int k : whole) {
                good |= k == n;
            }
            definition(text.substring(0, n), good ? 0 : -31, good ? -1 : place);
        }
    }

    private static void firstAlongTheText() {
        CHECK.of("11, Terms: FAULTS, the first along the text");
        definition("index a,a where a=100 x", -33, 8);
        definition("index a where a=100 x", -32, 16);
        definition("index a x where a=100", -31, 8);
        definition("index d,d", -31, 6);
        query("find a=1 and a=1 and a=1 and a=1 and a=100", -34, 37);
        query("find a=100 and a=1 and a=1 and a=1 and a=1", -32, 7);
        query("find a=1 order b,b and a=1", -33, 17);
        CHECK.of("24, Terms: FAULTS, of one place the least: what is no COND, where a fifth would be");
        query("find a=1 and a=1 and a=1 and a=1 and", -31, 36);
        query("find a=1 and a=1 and a=1 and a=1 and d=1", -31, 37);
        query("find a=1 and a=1 and a=1 and a=1 and 5", -31, 37);
    }

    private static void fault() {
        CHECK.of("12: what 0: its FAULT (0), 1: its place (NONE): ahead of any");
        LateIndex x = new LateIndex();
        CHECK.dueAll("fault", "0, -1", x.fault(0), x.fault(1));
        CHECK.of("12: NONE for others");
        CHECK.dueAll("fault", "-1, -1, -1, -1", x.fault(-1), x.fault(2), x.fault(Integer.MIN_VALUE), x.fault(Integer.MAX_VALUE));
        CHECK.of("12: (be it of no byte)");
        CHECK.dueAll("query(0), fault", "-31, 1, 0", x.query(0), x.fault(0), x.fault(1));
        CHECK.of("12: Of the latest that emptied THE TAPE: without a FAULT 0 and NONE");
        CHECK.dueAll("query, fault", "0, 0, -1", Check.query(x, "find"), x.fault(0), x.fault(1));
        CHECK.dueAll("build, fault", "-32, 2, 16", Check.build(x, 0, "index a where a=100"), x.fault(0), x.fault(1));
        CHECK.dueAll("build, fault", "0, 0, -1", Check.build(x, 0, "index a"), x.fault(0), x.fault(1));
        CHECK.dueAll("query, fault", "-33, 3, 13", Check.query(x, "find order c,c"), x.fault(0), x.fault(1));
        CHECK.of("12: not of one that left it as it was");
        Check.tape(x, "index a");
        CHECK.dueAll("build, query", "-2, -3, -3, -3, -5", x.build(2, 7), x.build(1, 21), x.build(1, -1), x.query(21), x.build(0, 7));
        CHECK.dueAll("fault", "3, 13", x.fault(0), x.fault(1));
        CHECK.of("12: neither undo() nor restore() changes it");
        x.image(0);
        x.undo(1);
        x.restore(0);
        CHECK.dueAll("fault", "3, 13", x.fault(0), x.fault(1));
        CHECK.of("12: NONE for others, with a FAULT");
        CHECK.dueAll("fault", "-1, -1", x.fault(-1), x.fault(2));
    }

    private static void queryFirstBytes() {
        CHECK.of("24: The first n bytes of THE TAPE: not one more");
        LateIndex x = new LateIndex();
        Check.tape(x, "find a=123 and");
        CHECK.dueAll("query, bytes", "1, 0", x.query(9), x.count(5));
        CHECK.of("24: n is all that there is: 100");
        CHECK.dueAll("query, bytes", "0, 0", Check.query(x, " ".repeat(96) + "find"), x.count(5));
        CHECK.of("24: n is 0: no byte, though THE TAPE has some (it is empty then)");
        Check.tape(x, "find a=1");
        CHECK.dueAll("query, bytes", "-31, 0", x.query(0), x.count(5));
        CHECK.of("24: (the elder QUERY stays), its CONDS and its KEYS");
        Check.commit(x, Check.row(0, 1, 2, 3), Check.row(1, 2, 2, 3), Check.row(2, 1, 3, 3));
        Check.query(x, "find a=1 order b desc");
        due("a FAULT at its end", -31, Check.query(x, "find a=2 and b=9 order b ,"));
        CHECK.dueAll("found", "2, 0", Check.foundRows(x, -1));
        CHECK.of("24: the QUERY from now on: nothing of the elder one");
        due("query", 0, Check.query(x, "find"));
        CHECK.dueAll("found", "0, 1, 2", Check.foundRows(x, -1));
    }

    private static void conditions() {
        CHECK.of("24: how many CONDS: none to four");
        query("find", 0, -1);
        query("find a=1", 1, -1);
        query("find a=1 and b!2", 2, -1);
        query("find a=1 and b!2 and c<3", 3, -1);
        query("find a=1 and b!2 and c<3 and a>4", 4, -1);
        CHECK.of("24, Terms: of CONDS any may come again");
        query("find a=1 and a=1 and a=1 and a=1", 4, -1);
        CHECK.of("24, Terms: a COLUMN of a COND isn't one of a KEY told already");
        query("find a=1 and b=2 and c=3 order a,b,c", 3, -1);
        CHECK.of("24: each COND holds to its end: COLUMN, OP, NUMBER");
        String[] texts = {"find", "find a=0", "find a=47", "find b!99", "find c<7", "find c<8", "find a>46", "find a>47", "find b>98",
            "find a<1", "find a<0", "find a!0 and a!1 and a!2 and a!3", "find a>3 and a<6 and b>94"};
        int[] many = {48, 1, 1, 47, 0, 48, 1, 0, 1, 1, 0, 44, 1};
        for (int k = 0; k < texts.length; k++) {
            LateIndex x = Scene.after(Scene::everyRow);
            Check.query(x, texts[k]);
            due(texts[k], many[k], x.find(-1));
        }
    }

    private static void fifthCondition() {
        CHECK.of("24, Terms: FAULT 4: a fifth COND (at its first word)");
        query("find a=1 and a=1 and a=1 and a=1 and a=1", -34, 37);
        query("find a=1and b=1and c=1and a=2and   c!1", -34, 35);
        query("find a=1 and a=1 and a=1 and a=1 and b", -34, 37);
        CHECK.of("24, Terms: four CONDS and what may come behind them");
        query("find a=1 and a=1 and a=1 and a=1 order a", 4, -1);
        query("find a=1 and a=1 and a=1 and a=1 ", 4, -1);
    }

    private static void keys() {
        CHECK.of("24, Terms: KEYS: one to three");
        query("find order a", 0, -1);
        query("find order a desc,b", 0, -1);
        query("find order c,b desc,a desc", 0, -1);
        CHECK.of("24, Terms: FAULT 3: a COLUMN of a KEY told already");
        query("find order a,a", -33, 13);
        query("find order a, b,b", -33, 16);
        query("find order a,b,a desc", -33, 15);
        query("find order a,b,c,b", -33, 17);
        CHECK.of("24, Terms: KEYS: none behind order, none behind a comma");
        query("find order", -31, 10);
        query("find a=1 order ", -31, 15);
        query("find order ,", -31, 11);
        query("find order a,", -31, 13);
        query("find order a,,b", -31, 13);
        query("find order a b", -31, 13);
        query("find order a desc desc", -31, 18);
        query("find order d", -31, 11);
    }

    private static void queryFaults() {
        CHECK.of("24, Terms: FAULTS likewise: 1 what can't stand there (the end: how many bytes there are)");
        query("", -31, 0);
        query("   ", -31, 3);
        query("find a", -31, 6);
        query("find a<", -31, 7);
        query("find a<1 and", -31, 12);
        query("find a<1 and ", -31, 13);
        query("find and a=1", -31, 5);
        query("find a=1, b=1", -31, 8);
        query("find a=1 b=1", -31, 9);
        query("find a=1 unique", -31, 9);
        query("find a=1 order a and b=1", -31, 17);
        query("find d=1", -31, 5);
        query("index a", -31, 0);
        query("find a=1 find", -31, 9);
        query("find a=1 order b order c", -31, 17);
        CHECK.of("11: a QUERY is no DEFINITION");
        definition("find a=1", -31, 0);
        definition("index a order b", -31, 8);
    }
}
