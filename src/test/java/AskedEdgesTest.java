/** The edges that promises 20 to 31 name, and the sentences on READS, STRETCHES, FAR, ALIKE and UNITS that they rest on. */
public final class AskedEdgesTest {
    private static final Check CHECK = new Check("asked edges");

    public static void main(String[] args) {
        aheadEnds();
        aheadDown();
        sameEnds();
        keysOfColumnsToldAlone();
        reads();
        by();
        find();
        found();
        foundOrder();
        findAsSeen();
        planEmpty();
        serves();
        servesByWhere();
        servesByFirstColumn();
        stretchColumns();
        stretchConditions();
        readsByStretch();
        leastReads();
        planOfTheTable();
        sorted();
        sortedSoRead();
        far();
        farOfLogs();
        alikeKeys();
        alikeRows();
        alikeOfTheTable();
        units();
        unitsOfRounds();
        unitsByMost();
        units999();
        free();
        freeOfWrites();
        CHECK.close();
    }

    private static void due(String call, int want, int got) {
        CHECK.due(call, want, got);
    }

    private static LateIndex ready(Scene.Way rows, String... texts) {
        LateIndex x = Scene.after(rows);
        for (int i = 0; i < texts.length; i++) {
            Check.ready(x, i, texts[i]);
        }
        return x;
    }

    /** Six rows: a, b, c. */
    private static void six(LateIndex x) {
        Check.commit(x, Check.row(0, 0, 0, 50), Check.row(9, 0, 99, 51), Check.row(18, 50, 50, 52), Check.row(27, 50, 50, 53),
            Check.row(36, 99, 0, 54), Check.row(47, 99, 99, 55));
    }

    private static void aheadEnds() {
        CHECK.of("20: COLUMNS a, b, c (0 to 99): the least and the greatest");
        LateIndex x = ready(AskedEdgesTest::six, "index a, b, c");
        CHECK.dueAll("ahead", "0, 6", x.ahead(0, 0, 0, 0), x.ahead(0, 99, 99, 99));
        CHECK.of("20: How many ENTRIES have a KEY that comes ahead: not the very KEY, one less, one more");
        CHECK.dueAll("ahead", "2, 2, 3, 3, 4", x.ahead(0, 50, 50, 51), x.ahead(0, 50, 50, 52), x.ahead(0, 50, 50, 53),
            x.ahead(0, 50, 50, 53), x.ahead(0, 50, 50, 54));
        CHECK.of("20: COLUMN by COLUMN");
        CHECK.dueAll("ahead", "1, 2, 4, 5, 2", x.ahead(0, 0, 1, 0), x.ahead(0, 1, 0, 0), x.ahead(0, 50, 51, 0), x.ahead(0, 99, 1, 0),
            x.ahead(0, 50, 0, 99));
        CHECK.of("20: by an INDEX without ENTRIES");
        LateIndex y = ready(z -> { }, "index a", "index b desc unique");
        CHECK.dueAll("ahead", "0, 0, 0", y.ahead(0, 99, 99, 99), y.ahead(1, 0, 0, 0), y.ahead(1, 99, 99, 99));
        CHECK.of("20: by an INDEX with all 48");
        LateIndex z = ready(Scene::everyRow, "index a", "index c");
        CHECK.dueAll("ahead", "0, 47, 48, 0, 48", z.ahead(0, 0, 0, 0), z.ahead(0, 47, 0, 0), z.ahead(0, 48, 0, 0), z.ahead(1, 0, 0, 7),
            z.ahead(1, 0, 0, 8));
    }

    private static void aheadDown() {
        CHECK.of("20: a KEY that comes ahead: the greater first by desc");
        LateIndex x = ready(AskedEdgesTest::six, "index a desc", "index a desc, b, c desc");
        CHECK.dueAll("of one COLUMN", "0, 2, 2, 4, 4, 6", x.ahead(0, 99, 0, 0), x.ahead(0, 98, 0, 0), x.ahead(0, 50, 0, 0),
            x.ahead(0, 49, 0, 0), x.ahead(0, 0, 0, 0), x.ahead(0, 0, 0, 0) + x.same(0, 0, 0, 0));
        CHECK.dueAll("of three COLUMNS", "0, 1, 2, 3, 4, 6", x.ahead(1, 99, 0, 99), x.ahead(1, 99, 0, 53), x.ahead(1, 50, 50, 53),
            x.ahead(1, 50, 50, 52), x.ahead(1, 0, 0, 99), x.ahead(1, 0, 99, 0));
    }

    private static void sameEnds() {
        CHECK.of("21: How many have the very KEY: the least, the greatest, all COLUMNS 0, all 99");
        Scene.Way rows = x -> Check.commit(x, Check.row(0, 0, 0, 0), Check.row(1, 99, 99, 99), Check.row(2, 99, 99, 98),
            Check.row(47, 99, 99, 99));
        LateIndex x = ready(rows, "index a, b, c", "index a desc, b desc, c desc");
        for (int i = 0; i < 2; i++) {
            CHECK.dueAll("same", "1, 2, 1, 0, 0", x.same(i, 0, 0, 0), x.same(i, 99, 99, 99), x.same(i, 99, 99, 98),
                x.same(i, 0, 0, 1), x.same(i, 98, 99, 99));
        }
        CHECK.of("21: How many have the very KEY: all 48, none");
        LateIndex y = ready(Scene::everyRow, "index c", "index b");
        CHECK.dueAll("same", "48, 0, 0, 1, 0, 1, 0", y.same(0, 1, 2, 7), y.same(0, 0, 0, 6), y.same(0, 0, 0, 8), y.same(1, 0, 99, 0),
            y.same(1, 0, 51, 0), y.same(1, 0, 52, 0), y.same(1, 0, 0, 0));
    }

    private static void keysOfColumnsToldAlone() {
        CHECK.of("20, 21: the KEY of COLUMNS a, b, c: the others are of no matter");
        LateIndex x = ready(AskedEdgesTest::six, "index b desc");
        CHECK.dueAll("ahead, same", "2, 2, 2, 2", x.ahead(0, 0, 50, 0), x.ahead(0, 99, 50, 99), x.same(0, 0, 50, 0),
            x.same(0, 99, 50, 99));
        CHECK.of("20, 21: of a KEY for which where doesn't hold");
        LateIndex y = ready(AskedEdgesTest::six, "index a where b > 0");
        CHECK.dueAll("ahead, same", "3, 1", y.ahead(0, 99, 0, 0), y.same(0, 99, 0, 0));
    }

    private static void reads() {
        CHECK.of("22: READS for COLUMN = v: how many ENTRIES have it, and 1: 0 and 99");
        LateIndex x = ready(AskedEdgesTest::six, "index a desc, b", "index b");
        CHECK.dueAll("reads(0, ..)", "3, 1, 3, 1, 3", x.reads(0, 0), x.reads(0, 1), x.reads(0, 50), x.reads(0, 98), x.reads(0, 99));
        CHECK.dueAll("reads(1, ..)", "3, 3, 3, 1", x.reads(1, 0), x.reads(1, 50), x.reads(1, 99), x.reads(1, 49));
        CHECK.of("22: without such an INDEX how many ROWS are there in THE TABLE: six, none, all");
        due("reads(2, 50)", 6, x.reads(2, 50));
        due("none", 0, new LateIndex().reads(0, 0));
        due("all", 48, Scene.after(Scene::everyRow).reads(2, 99));
        CHECK.of("22: by an INDEX: all ENTRIES and 1, none and 1");
        CHECK.dueAll("reads", "49, 1", ready(Scene::everyRow, "index c").reads(2, 7), ready(y -> { }, "index c").reads(2, 7));
        for (int state = 0; state <= 5; state++) {
            CHECK.of("22: by an INDEX that is READY: STATE " + state);
            CHECK.dueAll("reads, by", state == 4 ? "2, 1" : "3, -1", Scene.after(Scene.inState(1, state)).reads(0, 5),
                Scene.after(Scene.inState(1, state)).by(0));
        }
        CHECK.of("22: ROWS in THE TABLE, not those that one writes");
        x.begin(0);
        x.erase(0, 0);
        x.put(0, 1, 50, 50, 50);
        CHECK.dueAll("reads", "3, 6", x.reads(0, 50), x.reads(2, 50));
    }

    private static void by() {
        CHECK.of("23: The INDEX by which they are read: (the lowest)");
        LateIndex x = ready(AskedEdgesTest::six, "index c desc, a", "index c");
        CHECK.dueAll("by", "-1, -1, 0", x.by(0), x.by(1), x.by(2));
        x.giveUp(0);
        CHECK.dueAll("by", "-1, -1, 1", x.by(0), x.by(1), x.by(2));
        CHECK.of("23: without where");
        Check.ready(x, 0, "index c where c > 0");
        due("by(2)", 1, x.by(2));
        x.giveUp(1);
        CHECK.dueAll("by, reads", "-1, 6", x.by(2), x.reads(2, 50));
        CHECK.of("23: whose first COLUMN it is: the first and the last");
        LateIndex y = ready(AskedEdgesTest::six, "index a, c", "index b, c");
        CHECK.dueAll("by", "0, 1, -1", y.by(0), y.by(1), y.by(2));
    }

    private static void find() {
        CHECK.of("25: How many ROWS it FINDS: none, all 48");
        LateIndex x = Scene.after(Scene::everyRow);
        Check.query(x, "find a > 47");
        due("none", 0, x.find(-1));
        Check.query(x, "find");
        due("all", 48, x.find(-1));
        LateIndex y = new LateIndex();
        Check.query(y, "find");
        due("of a new object", 0, y.find(-1));
        CHECK.of("25, Terms: ROWS there for which all CONDS hold");
        Check.query(x, "find a > 10 and a < 14 and a ! 12 and b = 88");
        CHECK.dueAll("find, found", "1, 11, -1", x.find(-1), x.found(-1, 0), x.found(-1, 1));
        Check.query(x, "find a = 5 and a = 6");
        due("none can", 0, x.find(-1));
    }

    private static void found() {
        CHECK.of("26: The i-th ROW that it FINDS: the first and the last of 48");
        LateIndex x = Scene.after(Scene::everyRow);
        Check.query(x, "find order b");
        CHECK.dueAll("found", "47, 0", x.found(-1, 0), x.found(-1, 47));
        CHECK.of("26: NONE: not so many");
        CHECK.dueAll("found", "-1, -1", x.found(-1, 48), x.found(-1, Integer.MAX_VALUE));
        Check.query(x, "find a > 45");
        CHECK.dueAll("found", "46, 47, -1", x.found(-1, 0), x.found(-1, 1), x.found(-1, 2));
        Check.query(x, "find a > 99");
        due("none at all", -1, x.found(-1, 0));
    }

    private static void foundOrder() {
        CHECK.of("26, Terms: by KEYS, one behind another (less first; by desc more first), then by ROWS: 0 and 99");
        LateIndex x = Scene.after(AskedEdgesTest::six);
        String[] texts = {"find", "find order a", "find order a desc", "find order b desc, a", "find order b, a desc",
            "find order a desc, b, c desc", "find order c desc"};
        String[] wants = {"0, 9, 18, 27, 36, 47", "0, 9, 18, 27, 36, 47", "36, 47, 18, 27, 0, 9", "9, 47, 18, 27, 0, 36",
            "36, 0, 18, 27, 47, 9", "36, 47, 27, 18, 0, 9", "47, 36, 27, 18, 9, 0"};
        for (int k = 0; k < texts.length; k++) {
            Check.query(x, texts[k]);
            CHECK.dueAll(texts[k], wants[k], Check.foundRows(x, -1));
        }
    }

    private static void findAsSeen() {
        CHECK.of("25, 26: as a TRANSACTION sees them: its WRITES, else as it began; the first and the last");
        LateIndex x = Scene.after(AskedEdgesTest::six, y -> y.begin(0), y -> Check.commit(y, Check.row(0), Check.row(1, 7, 7, 7)));
        x.begin(3);
        x.put(3, 2, 8, 8, 8);
        x.erase(3, 47);
        Check.query(x, "find");
        CHECK.dueAll("0", "0, 9, 18, 27, 36, 47", Check.foundRows(x, 0));
        CHECK.dueAll("3", "1, 2, 9, 18, 27, 36", Check.foundRows(x, 3));
        CHECK.of("25, 26: t NONE: THE TABLE");
        CHECK.dueAll("the table", "1, 9, 18, 27, 36, 47", Check.foundRows(x, -1));
        CHECK.of("25, 26: CONDS and KEYS by what it sees");
        x.put(0, 9, 98, 98, 98);
        Check.query(x, "find a > 50 order a");
        CHECK.dueAll("0", "9, 36, 47", Check.foundRows(x, 0));
        CHECK.dueAll("the table", "36, 47", Check.foundRows(x, -1));
    }

    private static void plan(LateIndex x, String text, String want) {
        Check.query(x, text);
        CHECK.dueAll("plan of '" + text + "'", want, x.plan(0), x.plan(1), x.plan(2), x.plan(3), x.plan(4));
    }

    private static void planEmpty() {
        CHECK.of("27: what 0: NONE: without; 1: READS: ROWS there: none, six, all");
        plan(new LateIndex(), "find", "-1, 0, 1, 0, 0");
        plan(Scene.after(AskedEdgesTest::six), "find a=50", "-1, 6, 1, 0, 0");
        plan(Scene.after(Scene::everyRow), "find a=50", "-1, 48, 1, 0, 0");
        CHECK.of("27: READS by an INDEX: all ENTRIES and 1 are more than all ROWS");
        plan(ready(Scene::everyRow, "index c"), "find c=7", "-1, 48, 1, 0, 1");
        plan(ready(Scene::everyRow, "index c"), "find c>7", "0, 1, 1, 1, 1");
    }

    private static void serves() {
        for (int state = 0; state <= 5; state++) {
            CHECK.of("27, Terms: AN INDEX SERVES a QUERY, if it is READY: STATE " + state);
            LateIndex x = Scene.after(Scene.inState(0, state));
            plan(x, "find a=5", state == 4 ? "0, 2, 1, 1, 1" : "-1, 3, 1, 0, 0");
        }
        CHECK.of("27: 4: INDEXES that SERVE it (bits)");
        LateIndex x = ready(AskedEdgesTest::six, "index a", "index b");
        plan(x, "find c=1", "-1, 6, 1, 0, 0");
        plan(x, "find a=98", "0, 1, 1, 1, 1");
        plan(x, "find b=98", "1, 1, 1, 1, 2");
        plan(x, "find a=99 and b=98", "1, 1, 1, 1, 3");
    }

    private static void servesByWhere() {
        CHECK.of("27, Terms: has no where, or one that is just one of the CONDS");
        String[] wheres = {"c < 53", "c < 52", "c < 54", "c > 53", "c ! 53", "c = 53", "b < 53"};
        for (String where : wheres) {
            LateIndex x = ready(AskedEdgesTest::six, "index a where " + where);
            plan(x, "find a=0 and c<53", where.equals("c < 53") ? "0, 3, 1, 1, 1" : "-1, 6, 1, 0, 0");
        }
        CHECK.of("27, Terms: where is one of the CONDS: the last of four, by !");
        LateIndex x = ready(AskedEdgesTest::six, "index a where c ! 50");
        plan(x, "find a=0 and b!1 and b!2 and c!50", "0, 2, 1, 1, 1");
        plan(x, "find a=0 and b!1 and b!2 and c!5", "-1, 6, 1, 0, 0");
        CHECK.of("27, Terms: where is one of the CONDS, and no COND is of its first COLUMN");
        plan(x, "find c!50", "-1, 6, 1, 0, 0");
        CHECK.of("27, Terms: where is the COND of its first COLUMN");
        LateIndex y = ready(AskedEdgesTest::six, "index a where a > 50", "index b where b = 0");
        plan(y, "find a>50", "0, 3, 1, 1, 1");
        plan(y, "find b=0", "1, 3, 1, 1, 2");
    }

    private static void servesByFirstColumn() {
        CHECK.of("27, Terms: some COND is of its first COLUMN, not by !");
        LateIndex x = ready(AskedEdgesTest::six, "index a, b");
        plan(x, "find a=1", "0, 1, 1, 1, 1");
        plan(x, "find a<0", "0, 1, 1, 1, 1");
        plan(x, "find a>99", "0, 1, 1, 1, 1");
        plan(x, "find a!1", "-1, 6, 1, 0, 0");
        plan(x, "find b=1", "-1, 6, 1, 0, 0");
        plan(x, "find", "-1, 6, 1, 0, 0");
        CHECK.of("27, Terms: some COND: one of several, the last of four");
        plan(x, "find a!0 and a!50 and b=0 and a>98", "0, 3, 1, 1, 1");
    }

    private static void stretchColumns() {
        CHECK.of("27, Terms: STRETCH: of its COLUMNS, from the first one on, as long as there is a COND by =");
        LateIndex x = ready(AskedEdgesTest::six, "index a, b desc, c");
        plan(x, "find a=50", "0, 3, 1, 1, 1");
        plan(x, "find a=50 and b=50", "0, 3, 1, 2, 1");
        plan(x, "find a=50 and b=50 and c=53", "0, 2, 1, 3, 1");
        CHECK.of("27, Terms: STRETCH: and the next one behind these, if there is one by < or >");
        plan(x, "find a<50", "0, 3, 1, 1, 1");
        plan(x, "find a=0 and b>98", "0, 2, 1, 2, 1");
        plan(x, "find a=50 and b=50 and c<53", "0, 2, 1, 3, 1");
        CHECK.of("27, Terms: STRETCH: no COLUMN behind that one, by = or by < or >");
        plan(x, "find a<50 and b=0", "0, 3, 1, 1, 1");
        plan(x, "find a<50 and b<1", "0, 3, 1, 1, 1");
        plan(x, "find a=99 and b>5 and c=54", "0, 2, 1, 2, 1");
        CHECK.of("27, Terms: STRETCH: no COLUMN behind one without CONDS");
        plan(x, "find a=50 and c=53", "0, 3, 1, 1, 1");
        plan(x, "find a=50 and c>53", "0, 3, 1, 1, 1");
        CHECK.of("27, Terms: STRETCH: a COLUMN that has CONDS by ! alone ends it");
        plan(x, "find a=50 and b!0 and c=53", "0, 3, 1, 1, 1");
    }

    private static void stretchConditions() {
        CHECK.of("27, Terms: STRETCH: CONDS of these COLUMNS (not by !): all of them, how many");
        LateIndex x = ready(AskedEdgesTest::six, "index a, b");
        plan(x, "find a>0 and a<99", "0, 3, 1, 2, 1");
        plan(x, "find a>0 and a<99 and a!50", "0, 3, 1, 2, 1");
        plan(x, "find a=0 and a<5 and a>1", "0, 1, 1, 3, 1");
        plan(x, "find a=0 and a=0 and a=0 and a=0", "0, 3, 1, 4, 1");
        plan(x, "find a=0 and a=1", "0, 1, 1, 2, 1");
        plan(x, "find a=0 and b<5 and a<9 and b!0", "0, 2, 1, 3, 1");
        plan(x, "find b>0 and b<99 and a=0 and c=1", "0, 1, 1, 3, 1");
        CHECK.of("27: 3: how many CONDS its STRETCH has (0 without)");
        plan(x, "find a>0 and a>1 and a<99 and a!98", "0, 3, 1, 3, 1");
        plan(ready(Scene::everyRow, "index c"), "find c=7 and c=7", "-1, 48, 1, 0, 1");
    }

    private static void readsByStretch() {
        CHECK.of("27, Terms: READS by it: ENTRIES for which all CONDS of the STRETCH hold, and 1");
        LateIndex x = ready(Scene::everyRow, "index a desc", "index b");
        plan(x, "find a<46", "0, 47, 1, 1, 1");
        plan(x, "find a<47", "-1, 48, 1, 0, 1");
        plan(x, "find a>0 and a<47", "0, 47, 1, 2, 1");
        plan(x, "find a>20 and a<22", "0, 2, 1, 2, 1");
        plan(x, "find a=0", "0, 2, 1, 1, 1");
        plan(x, "find b=99", "1, 2, 1, 1, 2");
        plan(x, "find b>98", "1, 2, 1, 1, 2");
        plan(x, "find b<53", "1, 2, 1, 1, 2");
        CHECK.of("27, Terms: READS by it: of its ENTRIES, not of THE TABLE's ROWS");
        LateIndex y = ready(AskedEdgesTest::six, "index a where b = 0");
        plan(y, "find a>0 and b=0", "0, 2, 1, 1, 1");
    }

    private static void leastReads() {
        CHECK.of("27, Terms: It is read by that of the least READS (without one first)");
        LateIndex x = ready(y -> Check.commit(y, Check.row(0, 1, 1, 1), Check.row(1, 1, 2, 1), Check.row(2, 2, 2, 2)), "index a",
            "index b");
        plan(x, "find a=1", "-1, 3, 1, 0, 1");
        plan(x, "find a=2", "0, 2, 1, 1, 1");
        CHECK.of("27, Terms: (.. then the lower INDEX)");
        plan(x, "find a=2 and b=1", "0, 2, 1, 1, 3");
        CHECK.of("27, Terms: the higher INDEX, if it reads less");
        plan(x, "find a=1 and b=1", "1, 2, 1, 1, 3");
        plan(x, "find a=2 and b=3", "1, 1, 1, 1, 3");
        CHECK.of("27, Terms: without one: no ROW there");
        LateIndex y = ready(z -> { }, "index a");
        plan(y, "find a=1", "-1, 0, 1, 0, 1");
        CHECK.of("27, Terms: without one: one ROW there that the INDEX needn't read");
        Check.commit(y, Check.row(0, 2, 2, 2));
        plan(y, "find a=1", "-1, 1, 1, 0, 1");
        Check.commit(y, Check.row(1, 2, 2, 2));
        plan(y, "find a=1", "0, 1, 1, 1, 1");
    }

    private static void planOfTheTable() {
        CHECK.of("27: The QUERY now, of THE TABLE: as it is by now");
        LateIndex x = ready(AskedEdgesTest::six, "index a");
        plan(x, "find a=0 order a", "0, 3, 1, 1, 1");
        x.begin(0);
        x.put(0, 1, 0, 0, 0);
        due("READS, with one that is written", 3, x.plan(1));
        x.commit(0);
        due("READS, with one that was committed", 4, x.plan(1));
        x.giveUp(0);
        CHECK.dueAll("given up", "-1, 7, 0, 0, 0", x.plan(0), x.plan(1), x.plan(2), x.plan(3), x.plan(4));
    }

    private static void sorted() {
        CHECK.of("27, Terms: SORTED: there are no KEYS");
        LateIndex x = ready(AskedEdgesTest::six, "index a desc, b, c desc");
        plan(x, "find a=0", "0, 3, 1, 1, 1");
        plan(x, "find b=0", "-1, 6, 1, 0, 0");
        CHECK.of("27, Terms: SORTED: an INDEX whose COLUMNS, from the first one on, are just the KEYS, each up or down as that");
        plan(x, "find a=0 order a desc", "0, 3, 1, 1, 1");
        plan(x, "find a=0 order a desc, b", "0, 3, 1, 1, 1");
        plan(x, "find a=0 order a desc, b, c desc", "0, 3, 1, 1, 1");
        CHECK.of("27, Terms: not SORTED: the other way up or down: the first, the second, the third");
        plan(x, "find a=0 order a", "0, 3, 0, 1, 1");
        plan(x, "find a=0 order a desc, b desc", "0, 3, 0, 1, 1");
        plan(x, "find a=0 order a desc, b, c", "0, 3, 0, 1, 1");
        plan(x, "find a=0 order a, b desc, c", "0, 3, 0, 1, 1");
        CHECK.of("27, Terms: not SORTED: other COLUMNS");
        plan(x, "find a=0 order b", "0, 3, 0, 1, 1");
        plan(x, "find a=0 order a desc, c desc", "0, 3, 0, 1, 1");
        plan(x, "find a=0 order b, a desc", "0, 3, 0, 1, 1");
        CHECK.of("27, Terms: not SORTED: more KEYS than COLUMNS");
        LateIndex y = ready(AskedEdgesTest::six, "index a", "index b, c");
        plan(y, "find a=0 order a, b", "0, 3, 0, 1, 1");
        plan(y, "find b=0 order b, c, a", "1, 3, 0, 1, 2");
    }

    private static void sortedSoRead() {
        CHECK.of("27, Terms: SORTED: it is read by an INDEX: not without, not by another");
        LateIndex x = ready(AskedEdgesTest::six, "index a", "index b");
        plan(x, "find order a", "-1, 6, 0, 0, 0");
        plan(x, "find c=50 order a", "-1, 6, 0, 0, 0");
        plan(x, "find a=0 and b=50 order b", "0, 3, 0, 1, 3");
        plan(x, "find a=0 and b=1 order b", "1, 1, 1, 1, 3");
        plan(x, "find a=0 and b=1 order a", "1, 1, 0, 1, 3");
        CHECK.of("27, Terms: not SORTED without an INDEX, be nothing there");
        plan(new LateIndex(), "find order a", "-1, 0, 0, 0, 0");
    }

    private static void far() {
        CHECK.of("28: FAR: ENTRIES that it lacks: all, some, none");
        LateIndex x = Scene.after(AskedEdgesTest::six, y -> Check.build(y, 0, "index a"));
        due("all", 6, x.far(0));
        x.work(0, 47);
        due("the last", 1, x.far(0));
        x.work(0, 1);
        due("none", 0, x.far(0));
        CHECK.of("28: FAR: of none and of all 48");
        CHECK.dueAll("far", "0, 48, 0", Scene.after(y -> Check.build(y, 1, "index a")).far(1),
            Scene.after(Scene::everyRow, y -> Check.build(y, 1, "index a")).far(1), ready(Scene::everyRow, "index c").far(0));
        CHECK.of("28: FAR: those that THE TABLE now would not give: the last ENTRY went");
        LateIndex last = Scene.after(AskedEdgesTest::six, y -> Check.build(y, 0, "index c"), y -> y.work(0, 48));
        CHECK.dueAll("far, commit, far", "0, 2, 1", last.far(0), Check.commit(last, Check.row(47)), last.far(0));
        CHECK.of("28: FAR: of all 48, each of them changed");
        LateIndex all = Scene.after(Scene::everyRow, y -> Check.build(y, 1, "index a"), y -> y.work(1, 48));
        for (int from = 0; from < 48; from += 8) {
            int[][] rows = new int[8][];
            for (int k = 0; k < 8; k++) {
                rows[k] = Check.row(from + k, 50 + from + k, 0, 0);
            }
            Check.commit(all, rows);
        }
        CHECK.dueAll("far, ended by", "96, 0", all.far(1), all.index(1, 15));
        CHECK.of("28: FAR: and those that THE TABLE now would not give, together");
        Check.commit(x, Check.row(0));
        due("one that went", 1, x.far(0));
        Check.commit(x, Check.row(9, 1, 1, 1));
        due("one that changed", 3, x.far(0));
        Check.commit(x, Check.row(1, 0, 0, 0));
        due("one that came", 4, x.far(0));
        Check.commit(x, Check.row(18, 50, 1, 1));
        due("one of the same KEY", 4, x.far(0));
        CHECK.of("28: FAR: by its DEFINITION: where");
        LateIndex y = Scene.after(AskedEdgesTest::six, z -> Check.build(z, 0, "index a where b > 50"), z -> z.work(0, 48));
        Check.commit(y, Check.row(9, 0, 50, 51), Check.row(18, 50, 51, 52), Check.row(36, 99, 49, 54));
        due("one that where leaves, one that it takes", 2, y.far(0));
    }

    private static void farOfLogs() {
        for (int state = 1; state <= 5; state++) {
            CHECK.of("28: FAR: whatever the LOGS have, in STATE " + state);
            LateIndex x = Scene.after(Scene.inState(0, state), y -> Check.commit(y, Check.row(0, 9, 2, 3)));
            due("far(0)", state == 1 ? 4 : state == 3 || state == 4 ? 0 : 2, x.far(0));
        }
        CHECK.of("28: FAR: while both LOGS are done it comes to 0");
        LateIndex x = Scene.after(Scene.inState(0, 2), y -> Check.commit(y, Check.row(0, 9, 2, 3)));
        int[] want = {2, 1, 0, 0};
        int[] states = {3, 3, 3, 4};
        for (int k = 0; k < 4; k++) {
            CHECK.dueAll("work, far", states[k] + ", " + want[k], x.work(0, 1), x.far(0));
        }
        CHECK.of("28: FAR: what one writes is of no matter");
        LateIndex y = Scene.after(Scene.inState(0, 4), z -> z.begin(0), z -> z.erase(0, 0));
        due("far(0)", 0, y.far(0));
    }

    private static void alikeKeys() {
        CHECK.of("29: ALIKE: how many KEYS (k NONE): none, one, 24");
        LateIndex x = Scene.after(AskedEdgesTest::six, y -> Check.build(y, 0, "index c"), y -> Check.build(y, 1, "index b, a"));
        CHECK.dueAll("alike", "0, 1", x.alike(0, -1, 0), x.alike(1, -1, 0));
        LateIndex y = new LateIndex();
        for (int from = 0; from < 48; from += 8) {
            int[][] rows = new int[8][];
            for (int k = 0; k < 8; k++) {
                rows[k] = Check.row(from + k, (from + k) % 24, 0, 1);
            }
            Check.commit(y, rows);
        }
        Check.build(y, 0, "index a desc");
        Check.build(y, 1, "index b");
        CHECK.dueAll("alike", "24, 1", y.alike(0, -1, 0), y.alike(1, -1, 0));
        CHECK.of("29: of the k-th KEY (by ENTRIES' order): the first, the last, one behind it");
        CHECK.dueAll("alike", "23, 47, 0, 24, -1", y.alike(0, 0, 0), y.alike(0, 0, 1), y.alike(0, 23, 0), y.alike(0, 23, 1),
            y.alike(0, 24, 0));
        CHECK.dueAll("its ROWS, one behind them", "-1, -1", y.alike(0, 0, 2), y.alike(0, 23, 2));
        CHECK.of("29: ALIKE: none of all 48");
        LateIndex z = Scene.after(Scene::everyRow, w -> Check.build(w, 0, "index a"), w -> Check.build(w, 1, "index b desc, a"));
        CHECK.dueAll("alike", "0, -1, 0, -1", z.alike(0, -1, 0), z.alike(0, 0, 0), z.alike(1, -1, 0), z.alike(1, 0, 0));
        CHECK.of("29: k NONE: whatever j is, from 0 on");
        CHECK.dueAll("alike", "24, 24", y.alike(0, -1, 1), y.alike(0, -1, Integer.MAX_VALUE));
        CHECK.of("29: the j-th ROW (rising): all 48 of one KEY, one behind them");
        CHECK.dueAll("alike", "0, 1, 47, -1", y.alike(1, 0, 0), y.alike(1, 0, 1), y.alike(1, 0, 47), y.alike(1, 0, 48));
    }

    private static void alikeRows() {
        CHECK.of("29: KEYS that two and more ROWS have: two, three, not one");
        LateIndex x = Scene.after(y -> Check.commit(y, Check.row(0, 5, 0, 0), Check.row(1, 3, 0, 0), Check.row(2, 5, 0, 0),
            Check.row(3, 4, 0, 0), Check.row(4, 3, 0, 0), Check.row(5, 5, 0, 0)), y -> Check.build(y, 0, "index a"),
            y -> Check.build(y, 1, "index a desc where a < 5"));
        due("keys", 2, x.alike(0, -1, 0));
        CHECK.dueAll("the first KEY", "1, 4, -1", x.alike(0, 0, 0), x.alike(0, 0, 1), x.alike(0, 0, 2));
        CHECK.dueAll("the second KEY", "0, 2, 5, -1", x.alike(0, 1, 0), x.alike(0, 1, 1), x.alike(0, 1, 2), x.alike(0, 1, 3));
        CHECK.of("29: NONE: not so many");
        CHECK.dueAll("alike", "-1, -1, -1, -1", x.alike(0, 2, 0), x.alike(0, Integer.MAX_VALUE, 0), x.alike(0, 0, Integer.MAX_VALUE),
            x.alike(0, Integer.MAX_VALUE, Integer.MAX_VALUE));
        CHECK.of("29: (for which where holds)");
        CHECK.dueAll("alike", "1, 1, 4, -1", x.alike(1, -1, 0), x.alike(1, 0, 0), x.alike(1, 0, 1), x.alike(1, 1, 0));
    }

    private static void alikeOfTheTable() {
        for (int state = 1; state <= 5; state++) {
            CHECK.of("29: ALIKE in an INDEX by THE TABLE now, unique or not, whatever ENTRIES it has: STATE " + state);
            LateIndex x = Scene.after(Scene.inState(1, state));
            CHECK.dueAll("alike", "1, 0, 1", x.alike(1, -1, 0), x.alike(1, 0, 0), x.alike(1, 0, 1));
            x.begin(0);
            x.put(0, 0, 50, 50, 50);
            due("what one writes is of no matter", 1, x.alike(1, -1, 0));
            if (state != 3) {
                x.commit(0);
                due("mended", 0, x.alike(1, -1, 0));
            }
        }
    }

    private static void units() {
        CHECK.of("30: how many UNITS till it isn't 1, 2, 3 any more: one");
        LateIndex x = Scene.after(Scene.inState(0, 3));
        CHECK.dueAll("units", "1, 1", x.units(0, 0), x.units(0, 5));
        CHECK.of("30: from the first ROW on, from the last");
        LateIndex y = Scene.after(z -> Check.build(z, 1, "index a"));
        due("at its beginning", 50, y.units(1, 0));
        y.work(1, 47);
        CHECK.dueAll("at ROW 47, three come behind it", "3, 6", y.units(1, 0), y.units(1, 3));
        y.work(1, 1);
        due("behind it", 2, y.units(1, 0));
        CHECK.of("30, Terms: (as if nothing were ALIKE)");
        LateIndex z = Scene.after(Scene.inState(0, 0), w -> Check.build(w, 0, "index a unique"));
        CHECK.dueAll("units, work", "50, 1, 5", z.units(0, 0), z.work(0, 1), z.work(0, 49));
        CHECK.of("30: as many as work() needs, where nothing comes");
        LateIndex w = Scene.after(v -> Check.build(v, 0, "index a"), Scene.putToLog(50), v -> v.work(0, 10));
        due("units", 38 + 50 + 1 + 1, w.units(0, 0));
        CHECK.dueAll("work", "3, 4", w.work(0, 89), w.work(0, 1));
    }

    private static void unitsOfRounds() {
        CHECK.of("30, Terms: (behind it, while it is in STATES 1, 2): none comes behind the UNIT that leads to 3");
        LateIndex x = Scene.after(y -> Check.build(y, 0, "index a"), y -> y.work(0, 48));
        CHECK.dueAll("units", "2, 2, 2", x.units(0, 0), x.units(0, 3), x.units(0, 5));
        CHECK.of("30, Terms: w more came behind the UNIT that leads to 2: three are SHORT, four aren't");
        LateIndex y = Scene.after(z -> Check.build(z, 0, "index a"), z -> z.work(0, 47), z -> z.terms(1, 1));
        CHECK.dueAll("units", "6, 2", y.units(0, 3), y.units(0, 4));
        CHECK.of("30, Terms: w more came to its LATER: with those that it has");
        LateIndex z = Scene.after(v -> Check.build(v, 0, "index a"), v -> v.work(0, 48), v -> v.terms(0, 4), Scene.putToLog(1),
            v -> v.work(0, 1));
        due("state", 3, z.index(0, 0));
        LateIndex w = Scene.after(v -> Check.build(v, 0, "index a"), v -> v.terms(0, 4), Scene.putToLog(1), v -> v.work(0, 48));
        CHECK.dueAll("one of NOW, then 0 to 4 and the judgement", "3, 5, 7", w.units(0, 0), w.units(0, 2), w.units(0, 4));
        CHECK.of("30, Terms: what they are is of no matter: a TAKE and an ADD of one ENTRY");
        Check.commit(w, Check.row(8));
        due("units", 1 + 1 + 1 + 1, w.units(0, 0));
    }

    private static void unitsByMost() {
        CHECK.of("30: (It is GIVEN UP by ROUND: those till then.)");
        LateIndex x = Scene.after(y -> y.terms(1, 1), y -> y.terms(0, 0), y -> Check.build(y, 0, "index a"), Scene.putToLog(7));
        due("units, where none come", 48 + 7 + 1 + 1, x.units(0, 0));
        due("units, where one comes, 47 times ahead of round 1", 48 + 7 + 47 + 1, x.units(0, 1));
        CHECK.of("30: GIVEN UP by ROUND: as work() does");
        LateIndex y = Scene.after(z -> z.terms(1, 2), z -> Check.build(z, 1, "index a"), z -> z.work(1, 48), Scene.putToLog(4));
        due("units, where none come: 4 are done", 1 + 4 + 1 + 1, y.units(1, 0));
        due("units, where one comes: 4 are done, 5 have come", 1 + 4 + 1, y.units(1, 1));
        CHECK.of("30, Terms: IF w came: however many it has: GIVEN UP by LATER isn't foreseen");
        LateIndex z = Scene.after(v -> Check.build(v, 0, "index a"), Scene.putToLog(120), v -> v.terms(1, 1));
        due("units", 48 + 120 + 5 * 47 + 1, z.units(0, 5));
        CHECK.of("30: ROUND above MOST");
        LateIndex w = Scene.after(Scene.inState(0, 5), v -> v.terms(1, 1), v -> v.takeUp(0));
        CHECK.dueAll("units", "2, 2", w.units(0, 0), w.units(0, 1));
        Check.commit(w, Check.row(30, 1, 1, 1), Check.row(31, 1, 1, 1), Check.row(32, 1, 1, 1), Check.row(33, 1, 1, 1));
        CHECK.dueAll("units", "1, 1", w.units(0, 0), w.units(0, 5));
    }

    /** By w 1 each round is longer by one than the one ahead of it: round 1 does what came, and its turn is a UNIT, too. */
    private static void units999() {
        CHECK.of("30: NONE: more than 999: 999 and 1000");
        LateIndex x = Scene.after(y -> y.terms(1, 9), y -> Check.build(y, 1, "index a"), Scene.putToLog(56), y -> y.work(1, 2));
        due("1000", -1, x.units(1, 1));
        Check.commit(x, Check.row(40, 1, 1, 1));
        x.work(1, 1);
        due("999", 999, x.units(1, 1));
        CHECK.of("30: NONE: more than 999: far more, and it never comes to an end that can be told");
        due("units(1, 5)", -1, x.units(1, 5));
        CHECK.of("30: it changes nothing");
        CHECK.dueAll("index", "1, 3, 57", x.index(1, 0), x.index(1, 2), x.index(1, 4));
    }

    private static void free() {
        CHECK.of("31: The first ROW (0 on) that isn't there");
        LateIndex x = new LateIndex();
        due("0", 0, x.free());
        Check.commit(x, Check.row(0, 1, 1, 1), Check.row(1, 1, 1, 1), Check.row(3, 1, 1, 1));
        due("2", 2, x.free());
        CHECK.of("31: NONE: all 48 are there; the last, the first isn't");
        LateIndex y = Scene.after(Scene::everyRow);
        due("none", -1, y.free());
        Check.commit(y, Check.row(47));
        due("47", 47, y.free());
        Check.commit(y, Check.row(0));
        due("0", 0, y.free());
    }

    private static void freeOfWrites() {
        CHECK.of("31: and that no open TRANSACTION writes: puts, erases; the first and the last one");
        LateIndex x = new LateIndex();
        x.begin(0);
        x.begin(3);
        x.put(0, 0, 1, 1, 1);
        x.erase(3, 1);
        due("2", 2, x.free());
        CHECK.of("31: it is free again once that one is over");
        x.roll(3);
        due("1", 1, x.free());
        x.commit(0);
        due("1, for 0 is there now", 1, x.free());
        CHECK.of("31: a ROW that is there and that one erases isn't");
        LateIndex y = Scene.after(Scene::everyRow, z -> z.begin(2), z -> z.erase(2, 5));
        due("none", -1, y.free());
        y.commit(2);
        due("5", 5, y.free());
        CHECK.of("31: NONE: the only one that isn't there is written");
        y.begin(1);
        y.put(1, 5, 1, 1, 1);
        due("none", -1, y.free());
        CHECK.of("31: in THE TABLE now, not as one saw it");
        LateIndex z = Scene.after(w -> w.begin(0), w -> Check.commit(w, Check.row(0, 1, 1, 1)));
        due("1", 1, z.free());
    }
}
