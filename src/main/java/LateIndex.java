/**
 * Rows under transactions, and indexes that are built while the rows change.
 *
 * A row's three columns are held as one number (see packed), a key in an index as one number that rises
 * in the index's order (see Order), and an entry as that number with its row behind it (see SortedCodes).
 * All room is made in the constructor; no call makes an object.
 */
public final class LateIndex {
    public static final int NONE = -1;

    private static final int NO_SUCH = -2;
    private static final int BAD_NUMBER = -3;
    private static final int TOO_MANY = -4;
    private static final int NOT_NOW = -5;
    private static final int NO_IMAGE = -6;
    private static final int FAULTY = -30;

    private static final int ROWS = 48;
    private static final int COLUMNS = 3;
    private static final int NUMBERS = 100;
    private static final int VERSIONS_EACH = 8;
    private static final int TRANSACTIONS = 4;
    private static final int WRITES_EACH = 8;
    private static final int INDEXES = 2;
    private static final int LOG_ROOM = 120;
    private static final int CONDITIONS = 4;
    private static final int TAPE_ROOM = 100;
    private static final int BYTES_FED = 20;
    private static final int UNDO_ROOM = 8;
    private static final int IMAGES = 2;
    private static final int UNITS_A_CALL = 200;
    private static final int UNITS_FORESEEN = 999;
    private static final int ARRIVALS = 5;

    private static final int ABSENT = -1;
    private static final int UNWRITTEN = -2;
    private static final int SEQ_NEVER_REACHED = 1000000;

    private static final int TERM_SHORT = 0;
    private static final int TERM_MOST = 1;
    private static final int SHORT_GREATEST = 20;
    private static final int SHORT_AT_FIRST = 3;
    private static final int MOST_LEAST = 1;
    private static final int MOST_GREATEST = 9;
    private static final int MOST_AT_FIRST = 5;

    private static final int NO_INDEX = 0;
    private static final int SCAN = 1;
    private static final int CATCHING_UP = 2;
    private static final int LAST_ROUND = 3;
    private static final int READY = 4;
    private static final int ALIKE_ONES = 5;

    private static final int ENDED_BY_HAND = 1;
    private static final int ENDED_BY_ROUND = 2;
    private static final int ENDED_BY_LATER = 3;

    private static final int CONFLICT = 1;
    private static final int WAITS = 2;
    private static final int ALIKE = 3;
    private static final int FULL = 4;

    private static final int LIKE = 0;
    private static final int UNLIKE = 1;
    private static final int LESS = 2;
    private static final int MORE = 3;

    private static final int OUT_OF_PLACE = 1;
    private static final int LONG_NUMBER = 2;
    private static final int COLUMN_AGAIN = 3;
    private static final int FIFTH_CONDITION = 4;

    private final Store store = new Store();
    private final Store[] elders = new Store[UNDO_ROOM];
    private int eldest;
    private int undoable;
    private final Store[] images = new Store[IMAGES];
    private final boolean[] imageMade = new boolean[IMAGES];

    private final Tape tape = new Tape();
    private int latestWhy;

    private Question question = new Question();
    private Question spareQuestion = new Question();
    private boolean asked;
    private final Definition freshDefinition = new Definition();
    private final SortedCodes scratch = new SortedCodes();

    public LateIndex() {
        for (int k = 0; k < UNDO_ROOM; k++) {
            elders[k] = new Store();
        }
        for (int k = 0; k < IMAGES; k++) {
            images[k] = new Store();
        }
    }

    // ---- transactions

    public int begin(int t) {
        if (!isTransaction(t)) {
            return NO_SUCH;
        }
        Transaction one = store.transactions[t];
        if (one.open) {
            return NOT_NOW;
        }
        remember();
        one.start(store.seq);
        return one.snap;
    }

    public int put(int t, int row, int a, int b, int c) {
        if (!isTransaction(t) || !isRow(row)) {
            return NO_SUCH;
        }
        if (!areNumbers(a, b, c)) {
            return BAD_NUMBER;
        }
        int refusal = refusalOfWrite(t, row);
        if (refusal != 0) {
            return refusal;
        }
        remember();
        Transaction one = store.transactions[t];
        one.write(row, packed(a, b, c));
        return one.writes;
    }

    public int erase(int t, int row) {
        int refusal = refusalOfWrite(t, row);
        if (refusal != 0) {
            return refusal;
        }
        remember();
        int seen = store.valueSeen(t, row);
        store.transactions[t].write(row, ABSENT);
        return seen == ABSENT ? 0 : 1;
    }

    public int commit(int t) {
        if (!isTransaction(t)) {
            return NO_SUCH;
        }
        Transaction one = store.transactions[t];
        if (!one.open) {
            return NOT_NOW;
        }
        remember();
        latestWhy = store.hindrance(one, scratch);
        if (latestWhy == 0) {
            store.settle(one);
            return store.seq;
        }
        if (latestWhy == CONFLICT || latestWhy == ALIKE) {
            one.end();
        }
        return 0;
    }

    public int why() {
        return latestWhy;
    }

    public int roll(int t) {
        if (!isTransaction(t)) {
            return NO_SUCH;
        }
        Transaction one = store.transactions[t];
        if (!one.open) {
            return NOT_NOW;
        }
        remember();
        int lost = one.writes;
        one.end();
        return lost;
    }

    public int see(int t, int row, int what) {
        if (!isViewer(t) || !isRow(row) || what < 0 || what > COLUMNS) {
            return NO_SUCH;
        }
        if (!canView(t)) {
            return NOT_NOW;
        }
        int value = store.valueSeen(t, row);
        if (what == 0) {
            return value == ABSENT ? 0 : 1;
        }
        return value == ABSENT ? NONE : partOf(value, what - 1);
    }

    public int sweep() {
        remember();
        return store.sweepVersions();
    }

    // ---- indexes

    public int feed(int a, int b, int c, int d, int e) {
        if (tape.filled + BYTES_FED > TAPE_ROOM) {
            return TOO_MANY;
        }
        tape.append(a);
        tape.append(b);
        tape.append(c);
        tape.append(d);
        tape.append(e);
        return tape.filled;
    }

    public int build(int i, int n) {
        if (!isIndex(i)) {
            return NO_SUCH;
        }
        if (n < 0 || n > tape.filled) {
            return BAD_NUMBER;
        }
        OneIndex one = store.indexes[i];
        if (one.state != NO_INDEX) {
            return NOT_NOW;
        }
        if (!tape.readDefinition(n, freshDefinition)) {
            return FAULTY - tape.faultKind;
        }
        remember();
        one.start(freshDefinition, store.seq);
        return one.snap;
    }

    public int fault(int what) {
        if (what == 0) {
            return tape.faultKind;
        }
        return what == 1 ? tape.faultPlace : NONE;
    }

    public int work(int i, int n) {
        if (!isIndex(i)) {
            return NO_SUCH;
        }
        if (n < 1 || n > UNITS_A_CALL) {
            return BAD_NUMBER;
        }
        OneIndex one = store.indexes[i];
        if (!one.isUnderWay()) {
            return NOT_NOW;
        }
        remember();
        for (int done = 0; done < n && one.isUnderWay(); done++) {
            one.doUnit(store.versions, store.shortLog, store.mostRounds);
        }
        return one.state;
    }

    public int takeUp(int i) {
        if (!isIndex(i)) {
            return NO_SUCH;
        }
        OneIndex one = store.indexes[i];
        if (one.state != ALIKE_ONES) {
            return NOT_NOW;
        }
        remember();
        one.goOn();
        return one.round;
    }

    public int giveUp(int i) {
        if (!isIndex(i)) {
            return NO_SUCH;
        }
        OneIndex one = store.indexes[i];
        if (one.state == NO_INDEX) {
            return NOT_NOW;
        }
        remember();
        int had = one.state;
        one.drop(ENDED_BY_HAND);
        return had;
    }

    public int terms(int what, int v) {
        if (what != TERM_SHORT && what != TERM_MOST) {
            return NO_SUCH;
        }
        int least = what == TERM_SHORT ? 0 : MOST_LEAST;
        int greatest = what == TERM_SHORT ? SHORT_GREATEST : MOST_GREATEST;
        if (v < least || v > greatest) {
            return BAD_NUMBER;
        }
        remember();
        int was = what == TERM_SHORT ? store.shortLog : store.mostRounds;
        if (what == TERM_SHORT) {
            store.shortLog = v;
        } else {
            store.mostRounds = v;
        }
        return was;
    }

    public int index(int i, int what) {
        if (!isIndex(i) || what < 0 || what > 15) {
            return NO_SUCH;
        }
        OneIndex one = store.indexes[i];
        switch (what) {
            case 0: return one.state;
            case 1: return one.entries.size;
            case 2: return one.state == SCAN ? one.nextRow : NONE;
            case 3: return one.now.size;
            case 4: return one.later.size;
            case 5: return one.round;
            case 6: return one.state == SCAN ? one.snap : NONE;
            case 15: return one.endedBy;
            default: return one.definition.told(what);
        }
    }

    public int entry(int i, int k, int what) {
        if (!isIndex(i) || what < 0 || what > COLUMNS) {
            return NO_SUCH;
        }
        if (k < 0) {
            return BAD_NUMBER;
        }
        OneIndex one = store.indexes[i];
        if (k >= one.entries.size) {
            return NONE;
        }
        return one.definition.partOfEntry(one.entries.codes[k], what);
    }

    public int logged(int i, int which, int k, int what) {
        if (!isIndex(i) || which < 0 || which > 1 || what < 0 || what > COLUMNS + 1) {
            return NO_SUCH;
        }
        if (k < 0) {
            return BAD_NUMBER;
        }
        OneIndex one = store.indexes[i];
        Log log = which == 0 ? one.now : one.later;
        if (k >= log.size) {
            return NONE;
        }
        int item = log.itemAt(k);
        if (what == 0) {
            return Log.isAdd(item) ? 1 : 0;
        }
        return one.definition.partOfEntry(Log.codeIn(item), what - 1);
    }

    // ---- asked

    public int ahead(int i, int a, int b, int c) {
        int refusal = refusalOfKey(i, a, b, c);
        if (refusal != 0) {
            return refusal;
        }
        OneIndex one = store.indexes[i];
        int rank = one.definition.order.rankOf(packed(a, b, c));
        return one.entries.sizeBelow(rank);
    }

    public int same(int i, int a, int b, int c) {
        int refusal = refusalOfKey(i, a, b, c);
        if (refusal != 0) {
            return refusal;
        }
        OneIndex one = store.indexes[i];
        int rank = one.definition.order.rankOf(packed(a, b, c));
        return one.entries.sizeBelow(rank + 1) - one.entries.sizeBelow(rank);
    }

    public int reads(int column, int v) {
        if (!isColumn(column)) {
            return NO_SUCH;
        }
        if (!isNumber(v)) {
            return BAD_NUMBER;
        }
        int i = indexFor(column);
        if (i == NONE) {
            return store.versions.rowsThere();
        }
        return store.indexes[i].entriesLedBy(v) + 1;
    }

    public int by(int column) {
        return isColumn(column) ? indexFor(column) : NO_SUCH;
    }

    public int query(int n) {
        if (n < 0 || n > tape.filled) {
            return BAD_NUMBER;
        }
        if (!tape.readQuestion(n, spareQuestion)) {
            return FAULTY - tape.faultKind;
        }
        Question elder = question;
        question = spareQuestion;
        spareQuestion = elder;
        asked = true;
        return question.size;
    }

    public int find(int t) {
        if (!isViewer(t)) {
            return NO_SUCH;
        }
        if (!canView(t) || !asked) {
            return NOT_NOW;
        }
        gatherFound(t);
        return scratch.size;
    }

    public int found(int t, int i) {
        if (!isViewer(t)) {
            return NO_SUCH;
        }
        if (i < 0) {
            return BAD_NUMBER;
        }
        if (!canView(t) || !asked) {
            return NOT_NOW;
        }
        gatherFound(t);
        return i < scratch.size ? SortedCodes.rowIn(scratch.codes[i]) : NONE;
    }

    public int plan(int what) {
        if (what < 0 || what > 4) {
            return NO_SUCH;
        }
        if (!asked) {
            return NOT_NOW;
        }
        int best = cheapestIndex();
        switch (what) {
            case 0: return best;
            case 1: return readsBy(best);
            case 2: return isSortedBy(best) ? 1 : 0;
            case 3: return best == NONE ? 0 : question.stretchSize(store.indexes[best].definition.order);
            default: return servingIndexes();
        }
    }

    public int far(int i) {
        if (!isIndex(i)) {
            return NO_SUCH;
        }
        OneIndex one = store.indexes[i];
        if (one.state == NO_INDEX) {
            return NOT_NOW;
        }
        store.gatherEntries(one.definition, null, scratch);
        return one.entries.differenceFrom(scratch);
    }

    public int alike(int i, int k, int j) {
        if (!isIndex(i)) {
            return NO_SUCH;
        }
        if (k < NONE || j < 0) {
            return BAD_NUMBER;
        }
        OneIndex one = store.indexes[i];
        if (one.state == NO_INDEX) {
            return NOT_NOW;
        }
        store.gatherEntries(one.definition, null, scratch);
        return k == NONE ? scratch.twinGroups() : scratch.rowOfTwins(k, j);
    }

    public int units(int i, int w) {
        if (!isIndex(i)) {
            return NO_SUCH;
        }
        if (w < 0 || w > ARRIVALS) {
            return BAD_NUMBER;
        }
        OneIndex one = store.indexes[i];
        if (!one.isUnderWay()) {
            return NOT_NOW;
        }
        return one.unitsAhead(w, store.shortLog, store.mostRounds);
    }

    public int free() {
        for (int row = 0; row < ROWS; row++) {
            if (store.versions.latest(row) == ABSENT && !store.isBeingWritten(row)) {
                return row;
            }
        }
        return NONE;
    }

    // ---- back

    public int undo(int n) {
        if (n < 1 || n > undoable) {
            return BAD_NUMBER;
        }
        undoable -= n;
        store.copyFrom(elders[(eldest + undoable) % UNDO_ROOM]);
        return undoable;
    }

    public int image(int i) {
        if (i < 0 || i >= IMAGES) {
            return NO_SUCH;
        }
        images[i].copyFrom(store);
        imageMade[i] = true;
        return 0;
    }

    public int restore(int i) {
        if (i < 0 || i >= IMAGES) {
            return NO_SUCH;
        }
        if (!imageMade[i]) {
            return NO_IMAGE;
        }
        store.copyFrom(images[i]);
        undoable = 0;
        return 0;
    }

    public int count(int what) {
        if (what >= 10 && what < 10 + TRANSACTIONS) {
            return store.transactions[what - 10].writes;
        }
        if (what >= 20 && what < 20 + TRANSACTIONS) {
            Transaction one = store.transactions[what - 20];
            return one.open ? one.snap : NONE;
        }
        switch (what) {
            case 0: return store.versions.rowsThere();
            case 1: return store.seq;
            case 2: return store.openTransactions();
            case 3: return store.versions.inAll();
            case 4: return store.hasLastRound() ? 1 : 0;
            case 5: return tape.filled;
            case 6: return undoable;
            case 7: return store.shortLog;
            case 8: return store.mostRounds;
            default: return NONE;
        }
    }

    // ---- what the calls share

    private static boolean isTransaction(int t) {
        return t >= 0 && t < TRANSACTIONS;
    }

    private static boolean isRow(int row) {
        return row >= 0 && row < ROWS;
    }

    private static boolean isColumn(int column) {
        return column >= 0 && column < COLUMNS;
    }

    private static boolean isIndex(int i) {
        return i >= 0 && i < INDEXES;
    }

    private static boolean isNumber(int v) {
        return v >= 0 && v < NUMBERS;
    }

    private static boolean areNumbers(int a, int b, int c) {
        return isNumber(a) && isNumber(b) && isNumber(c);
    }

    /** Three numbers of 0 to 99 as one, the first of them counting most. */
    private static int packed(int a, int b, int c) {
        return (a * NUMBERS + b) * NUMBERS + c;
    }

    private static int partOf(int value, int place) {
        if (place == 0) {
            return value / (NUMBERS * NUMBERS);
        }
        return place == 1 ? value / NUMBERS % NUMBERS : value % NUMBERS;
    }

    private static boolean isViewer(int t) {
        return t == NONE || isTransaction(t);
    }

    private boolean canView(int t) {
        return t == NONE || (isTransaction(t) && store.transactions[t].open);
    }

    /** Every call that can be undone comes here once it is sure not to be refused, before it changes anything. */
    private void remember() {
        elders[(eldest + undoable) % UNDO_ROOM].copyFrom(store);
        if (undoable < UNDO_ROOM) {
            undoable++;
        } else {
            eldest = (eldest + 1) % UNDO_ROOM;
        }
    }

    private int refusalOfWrite(int t, int row) {
        if (!isTransaction(t) || !isRow(row)) {
            return NO_SUCH;
        }
        Transaction one = store.transactions[t];
        if (!one.open) {
            return NOT_NOW;
        }
        return one.hasRoomFor(row) ? 0 : TOO_MANY;
    }

    private int refusalOfKey(int i, int a, int b, int c) {
        if (!isIndex(i)) {
            return NO_SUCH;
        }
        if (!areNumbers(a, b, c)) {
            return BAD_NUMBER;
        }
        return store.indexes[i].state == READY ? 0 : NOT_NOW;
    }

    private int indexFor(int column) {
        for (int i = 0; i < INDEXES; i++) {
            OneIndex one = store.indexes[i];
            Definition definition = one.definition;
            if (one.state == READY && !definition.partial && definition.order.columns[0] == column) {
                return i;
            }
        }
        return NONE;
    }

    private void gatherFound(int t) {
        scratch.clearAll();
        for (int row = 0; row < ROWS; row++) {
            int value = store.valueSeen(t, row);
            if (value != ABSENT && question.holdsFor(value)) {
                scratch.include(SortedCodes.codeOf(question.keys.rankOf(value), row));
            }
        }
    }

    private int readsBy(int i) {
        return isIndex(i) ? question.readsBy(store.indexes[i]) : store.versions.rowsThere();
    }

    private int cheapestIndex() {
        int best = NONE;
        int least = readsBy(NONE);
        for (int i = 0; i < INDEXES; i++) {
            if (question.isServedBy(store.indexes[i]) && readsBy(i) < least) {
                best = i;
                least = readsBy(i);
            }
        }
        return best;
    }

    private boolean isSortedBy(int i) {
        if (question.keys.size == 0) {
            return true;
        }
        return isIndex(i) && store.indexes[i].definition.order.beginsWith(question.keys);
    }

    private int servingIndexes() {
        int bits = 0;
        for (int i = 0; i < INDEXES; i++) {
            if (question.isServedBy(store.indexes[i])) {
                bits |= 1 << i;
            }
        }
        return bits;
    }

    /** Entries in rising order, none twice; each is a rank (which tells the key) with the row behind it. */
    private static final class SortedCodes {
        private static final int ROW_BITS = 6;
        private static final int ROW_MASK = 63;

        // One row has at most one entry at a time, so there are never more of them than rows.
        final int[] codes = new int[ROWS];
        int size;

        static int codeOf(int rank, int row) {
            return (rank << ROW_BITS) | row;
        }

        static int rowIn(int code) {
            return code & ROW_MASK;
        }

        static int rankIn(int code) {
            return code >> ROW_BITS;
        }

        void clearAll() {
            size = 0;
        }

        void copyFrom(SortedCodes other) {
            System.arraycopy(other.codes, 0, codes, 0, ROWS);
            size = other.size;
        }

        void include(int code) {
            int place = placeFor(code);
            if (size >= ROWS || (place < size && codes[place] == code)) {
                return;
            }
            System.arraycopy(codes, place, codes, place + 1, size - place);
            codes[place] = code;
            size++;
        }

        void exclude(int code) {
            int place = placeFor(code);
            if (place >= size || codes[place] != code) {
                return;
            }
            size--;
            System.arraycopy(codes, place + 1, codes, place, size - place);
        }

        int sizeBelow(int rank) {
            return placeFor(codeOf(rank, 0));
        }

        /** How many codes are in just one of the two. */
        int differenceFrom(SortedCodes other) {
            int shared = 0;
            for (int k = 0; k < size; k++) {
                int place = other.placeFor(codes[k]);
                if (place < other.size && other.codes[place] == codes[k]) {
                    shared++;
                }
            }
            return size + other.size - 2 * shared;
        }

        boolean hasTwins() {
            for (int k = 1; k < size; k++) {
                if (rankIn(codes[k]) == rankIn(codes[k - 1])) {
                    return true;
                }
            }
            return false;
        }

        int twinGroups() {
            int groups = 0;
            for (int k = 0; k < size; k++) {
                if (opensTwins(k)) {
                    groups++;
                }
            }
            return groups;
        }

        int rowOfTwins(int group, int member) {
            int passed = 0;
            for (int k = 0; k < size; k++) {
                if (!opensTwins(k)) {
                    continue;
                }
                if (passed == group) {
                    return rowInGroup(k, member);
                }
                passed++;
            }
            return NONE;
        }

        private int rowInGroup(int first, int member) {
            if (member >= size - first) {
                return NONE;
            }
            int code = codes[first + member];
            return rankIn(code) == rankIn(codes[first]) ? rowIn(code) : NONE;
        }

        private boolean opensTwins(int k) {
            int rank = rankIn(codes[k]);
            boolean first = k == 0 || rankIn(codes[k - 1]) != rank;
            return first && k + 1 < size && rankIn(codes[k + 1]) == rank;
        }

        private int placeFor(int code) {
            for (int k = 0; k < size; k++) {
                if (codes[k] >= code) {
                    return k;
                }
            }
            return size;
        }
    }

    /** Columns one behind another, each rising or falling: the order of an index, or that of a query. */
    private static final class Order {
        final int[] columns = new int[COLUMNS];
        final boolean[] falling = new boolean[COLUMNS];
        int size;

        void clearAll() {
            size = 0;
        }

        void copyFrom(Order other) {
            for (int k = 0; k < COLUMNS; k++) {
                columns[k] = other.columns[k];
                falling[k] = other.falling[k];
            }
            size = other.size;
        }

        void append(int column, boolean desc) {
            if (size < COLUMNS) {
                columns[size] = column;
                falling[size] = desc;
                size++;
            }
        }

        int placeOf(int column) {
            for (int k = 0; k < size; k++) {
                if (columns[k] == column) {
                    return k;
                }
            }
            return NONE;
        }

        boolean beginsWith(Order other) {
            if (other.size > size) {
                return false;
            }
            for (int k = 0; k < other.size; k++) {
                if (columns[k] != other.columns[k] || falling[k] != other.falling[k]) {
                    return false;
                }
            }
            return true;
        }

        /** A number that rises in this order: falling columns are turned round, those not told are 0. */
        int rankOf(int value) {
            int rank = 0;
            for (int k = 0; k < COLUMNS; k++) {
                int part = k < size ? turned(partOf(value, columns[k]), k) : 0;
                rank = rank * NUMBERS + part;
            }
            return rank;
        }

        int keyPart(int rank, int k) {
            return turned(partOf(rank, k), k);
        }

        private int turned(int part, int k) {
            return falling[k] ? NUMBERS - 1 - part : part;
        }
    }

    private static final class Condition {
        int column;
        int op;
        int number;

        void tell(int newColumn, int newOp, int newNumber) {
            column = newColumn;
            op = newOp;
            number = newNumber;
        }

        void copyFrom(Condition other) {
            tell(other.column, other.op, other.number);
        }

        boolean isAs(Condition other) {
            return column == other.column && op == other.op && number == other.number;
        }

        boolean holdsFor(int value) {
            return fits(partOf(value, column));
        }

        boolean fits(int part) {
            switch (op) {
                case LIKE: return part == number;
                case UNLIKE: return part != number;
                case LESS: return part < number;
                default: return part > number;
            }
        }
    }

    /** What an index is of. */
    private static final class Definition {
        final Order order = new Order();
        boolean unique;
        boolean partial;
        final Condition where = new Condition();

        void clearAll() {
            order.clearAll();
            unique = false;
            partial = false;
            where.tell(0, 0, 0);
        }

        void copyFrom(Definition other) {
            order.copyFrom(other.order);
            unique = other.unique;
            partial = other.partial;
            where.copyFrom(other.where);
        }

        int entryOf(int value, int row) {
            if (value == ABSENT || (partial && !where.holdsFor(value))) {
                return NONE;
            }
            return SortedCodes.codeOf(order.rankOf(value), row);
        }

        /** What 0 the row, 1 to 3 the key. */
        int partOfEntry(int code, int what) {
            if (what == 0) {
                return SortedCodes.rowIn(code);
            }
            return what <= order.size ? order.keyPart(SortedCodes.rankIn(code), what - 1) : NONE;
        }

        /** The numbers 7 to 14 of index(). */
        int told(int what) {
            switch (what) {
                case 7: return unique ? 1 : 0;
                case 8: return order.size;
                case 12: return partial ? where.column : NONE;
                case 13: return where.op;
                case 14: return where.number;
                default: return toldColumn(what - 9);
            }
        }

        private int toldColumn(int k) {
            if (k < 0 || k >= order.size) {
                return NONE;
            }
            return order.columns[k] + (order.falling[k] ? 10 : 0);
        }
    }

    /** Entries to take and to add, one behind another. */
    private static final class Log {
        final int[] items = new int[LOG_ROOM];
        int first;
        int size;

        static int codeIn(int item) {
            return item >> 1;
        }

        static boolean isAdd(int item) {
            return (item & 1) == 1;
        }

        void clearAll() {
            first = 0;
            size = 0;
        }

        void copyFrom(Log other) {
            System.arraycopy(other.items, other.first, items, 0, other.size);
            first = 0;
            size = other.size;
        }

        boolean isFull() {
            return first + size >= LOG_ROOM;
        }

        void append(int code, boolean add) {
            if (!isFull()) {
                items[first + size] = (code << 1) | (add ? 1 : 0);
                size++;
            }
        }

        int itemAt(int k) {
            return k >= 0 && k < size ? items[first + k] : NONE;
        }

        void dropFirst() {
            if (size > 0) {
                first++;
                size--;
            }
        }
    }

    /** One index, from its build on. */
    private static final class OneIndex {
        int state;
        int snap;
        int nextRow;
        int round;
        int endedBy;
        final Definition definition = new Definition();
        final SortedCodes entries = new SortedCodes();
        final Log now = new Log();
        final Log later = new Log();

        void copyFrom(OneIndex other) {
            state = other.state;
            snap = other.snap;
            nextRow = other.nextRow;
            round = other.round;
            endedBy = other.endedBy;
            definition.copyFrom(other.definition);
            entries.copyFrom(other.entries);
            now.copyFrom(other.now);
            later.copyFrom(other.later);
        }

        boolean isUnderWay() {
            return state == SCAN || state == CATCHING_UP || state == LAST_ROUND;
        }

        void start(Definition told, int seq) {
            clearAll();
            definition.copyFrom(told);
            state = SCAN;
            snap = seq;
            endedBy = 0;
        }

        void drop(int reason) {
            clearAll();
            endedBy = reason;
        }

        /** The scan is over, or it is taken up again. */
        void goOn() {
            state = CATCHING_UP;
            nextRound();
        }

        void doUnit(Versions versions, int shortLog, int mostRounds) {
            if (state == SCAN) {
                scanRow(versions);
            } else if (now.size > 0) {
                carryOutFirst();
            } else if (state == LAST_ROUND) {
                state = definition.unique && entries.hasTwins() ? ALIKE_ONES : READY;
            } else if (state == CATCHING_UP) {
                endRound(shortLog, mostRounds);
            }
        }

        /** What a commit changes, told while the versions are still those ahead of it. */
        void follow(Versions versions, Transaction writer) {
            for (int row = 0; row < ROWS && state != NO_INDEX; row++) {
                if (!writer.hasWritten(row)) {
                    continue;
                }
                int elder = definition.entryOf(versions.latest(row), row);
                int fresh = definition.entryOf(writer.written[row], row);
                if (elder != fresh) {
                    keepTrue(elder, false);
                    keepTrue(fresh, true);
                }
            }
        }

        int entriesLedBy(int number) {
            int led = 0;
            for (int k = 0; k < entries.size; k++) {
                if (definition.partOfEntry(entries.codes[k], 1) == number) {
                    led++;
                }
            }
            return led;
        }

        /** Only how many there are counts here: what the logs hold can't make the build longer or shorter. */
        int unitsAhead(int arrivals, int shortLog, int mostRounds) {
            int stage = state;
            int row = nextRow;
            int atRound = round;
            int inNow = now.size;
            int inLater = later.size;
            for (int done = 1; done <= UNITS_FORESEEN; done++) {
                boolean turns = false;
                if (stage == SCAN) {
                    row++;
                    turns = row >= ROWS;
                    stage = turns ? CATCHING_UP : SCAN;
                } else if (inNow > 0) {
                    inNow--;
                } else if (stage == LAST_ROUND || (inLater > shortLog && atRound >= mostRounds)) {
                    return done;
                } else {
                    turns = true;
                    stage = inLater <= shortLog ? LAST_ROUND : CATCHING_UP;
                }
                if (turns) {
                    inNow = inLater;
                    inLater = 0;
                    atRound += stage == LAST_ROUND ? 0 : 1;
                }
                inLater += stage == LAST_ROUND ? 0 : arrivals;
            }
            return NONE;
        }

        private void clearAll() {
            state = NO_INDEX;
            snap = 0;
            nextRow = 0;
            round = 0;
            definition.clearAll();
            entries.clearAll();
            now.clearAll();
            later.clearAll();
        }

        private void scanRow(Versions versions) {
            int code = definition.entryOf(versions.valueAt(nextRow, snap), nextRow);
            if (code != NONE) {
                entries.include(code);
            }
            nextRow++;
            if (nextRow >= ROWS) {
                goOn();
            }
        }

        private void endRound(int shortLog, int mostRounds) {
            if (later.size <= shortLog) {
                state = LAST_ROUND;
                turnLogs();
            } else if (round >= mostRounds) {
                drop(ENDED_BY_ROUND);
            } else {
                nextRound();
            }
        }

        private void nextRound() {
            round++;
            turnLogs();
        }

        private void turnLogs() {
            now.copyFrom(later);
            later.clearAll();
        }

        private void carryOutFirst() {
            int item = now.itemAt(0);
            carryOut(Log.codeIn(item), Log.isAdd(item));
            now.dropFirst();
        }

        private void carryOut(int code, boolean add) {
            if (add) {
                entries.include(code);
            } else {
                entries.exclude(code);
            }
        }

        /** Dropped as soon as the log is full: what it holds by then goes with the rest. */
        private void keepTrue(int code, boolean add) {
            if (code == NONE || state == NO_INDEX) {
                return;
            }
            if (state == READY) {
                carryOut(code, add);
            } else if (later.isFull()) {
                drop(ENDED_BY_LATER);
            } else {
                later.append(code, add);
            }
        }
    }

    /** Of each row its versions, by rising seq. */
    private static final class Versions {
        final int[] seqs = new int[ROWS * VERSIONS_EACH];
        final int[] values = new int[ROWS * VERSIONS_EACH];
        final int[] sizes = new int[ROWS];

        Versions() {
            for (int row = 0; row < ROWS; row++) {
                values[row * VERSIONS_EACH] = ABSENT;
                sizes[row] = 1;
            }
        }

        void copyFrom(Versions other) {
            System.arraycopy(other.seqs, 0, seqs, 0, ROWS * VERSIONS_EACH);
            System.arraycopy(other.values, 0, values, 0, ROWS * VERSIONS_EACH);
            System.arraycopy(other.sizes, 0, sizes, 0, ROWS);
        }

        int latest(int row) {
            return values[lastPlace(row)];
        }

        int latestSeq(int row) {
            return seqs[lastPlace(row)];
        }

        int valueAt(int row, int snap) {
            int first = row * VERSIONS_EACH;
            for (int k = sizes[row] - 1; k >= 0; k--) {
                if (seqs[first + k] <= snap) {
                    return values[first + k];
                }
            }
            return ABSENT;
        }

        boolean isFull(int row) {
            return sizes[row] >= VERSIONS_EACH;
        }

        void append(int row, int seq, int value) {
            if (isFull(row)) {
                return;
            }
            sizes[row]++;
            seqs[lastPlace(row)] = seq;
            values[lastPlace(row)] = value;
        }

        int inAll() {
            int all = 0;
            for (int row = 0; row < ROWS; row++) {
                all += sizes[row];
            }
            return all;
        }

        int rowsThere() {
            int there = 0;
            for (int row = 0; row < ROWS; row++) {
                there += latest(row) == ABSENT ? 0 : 1;
            }
            return there;
        }

        /** Keeps what is seen from the first so many snaps; tells how many versions went. */
        int keepSeen(int row, int[] snaps, int many) {
            int first = row * VERSIONS_EACH;
            int before = sizes[row];
            int kept = 0;
            for (int k = 0; k < before; k++) {
                int next = k + 1 < before ? seqs[first + k + 1] : SEQ_NEVER_REACHED;
                if (isOneWithin(snaps, many, seqs[first + k], next)) {
                    seqs[first + kept] = seqs[first + k];
                    values[first + kept] = values[first + k];
                    kept++;
                }
            }
            sizes[row] = kept;
            return before - kept;
        }

        private static boolean isOneWithin(int[] snaps, int many, int from, int below) {
            for (int k = 0; k < many && k < snaps.length; k++) {
                if (snaps[k] >= from && snaps[k] < below) {
                    return true;
                }
            }
            return false;
        }

        private int lastPlace(int row) {
            return row * VERSIONS_EACH + sizes[row] - 1;
        }
    }

    private static final class Transaction {
        boolean open;
        int snap;
        int writes;
        final int[] written = new int[ROWS];

        Transaction() {
            for (int row = 0; row < ROWS; row++) {
                written[row] = UNWRITTEN;
            }
        }

        void copyFrom(Transaction other) {
            open = other.open;
            snap = other.snap;
            writes = other.writes;
            System.arraycopy(other.written, 0, written, 0, ROWS);
        }

        void start(int seq) {
            open = true;
            snap = seq;
        }

        void end() {
            open = false;
            snap = 0;
            writes = 0;
            for (int row = 0; row < ROWS; row++) {
                written[row] = UNWRITTEN;
            }
        }

        boolean hasWritten(int row) {
            return written[row] != UNWRITTEN;
        }

        boolean hasRoomFor(int row) {
            return hasWritten(row) || writes < WRITES_EACH;
        }

        void write(int row, int value) {
            if (!hasWritten(row)) {
                writes++;
            }
            written[row] = value;
        }
    }

    /** All that can be undone and that an image holds. */
    private static final class Store {
        int seq;
        int shortLog = SHORT_AT_FIRST;
        int mostRounds = MOST_AT_FIRST;
        final Versions versions = new Versions();
        final Transaction[] transactions = new Transaction[TRANSACTIONS];
        final OneIndex[] indexes = new OneIndex[INDEXES];
        private final int[] snaps = new int[1 + TRANSACTIONS + INDEXES];

        Store() {
            for (int t = 0; t < TRANSACTIONS; t++) {
                transactions[t] = new Transaction();
            }
            for (int i = 0; i < INDEXES; i++) {
                indexes[i] = new OneIndex();
            }
        }

        void copyFrom(Store other) {
            seq = other.seq;
            shortLog = other.shortLog;
            mostRounds = other.mostRounds;
            versions.copyFrom(other.versions);
            for (int t = 0; t < TRANSACTIONS; t++) {
                transactions[t].copyFrom(other.transactions[t]);
            }
            for (int i = 0; i < INDEXES; i++) {
                indexes[i].copyFrom(other.indexes[i]);
            }
        }

        int valueSeen(int t, int row) {
            if (t == NONE) {
                return versions.latest(row);
            }
            Transaction one = transactions[t];
            return one.hasWritten(row) ? one.written[row] : versions.valueAt(row, one.snap);
        }

        /** Why a commit can't be, 0 if it can. */
        int hindrance(Transaction one, SortedCodes scratch) {
            if (one.writes == 0) {
                return 0;
            }
            if (hasLastRound()) {
                return WAITS;
            }
            if (hasConflict(one)) {
                return CONFLICT;
            }
            if (hasFullRow(one)) {
                return FULL;
            }
            return makesAlike(one, scratch) ? ALIKE : 0;
        }

        void settle(Transaction one) {
            if (one.writes > 0) {
                for (int i = 0; i < INDEXES; i++) {
                    indexes[i].follow(versions, one);
                }
                seq++;
                for (int row = 0; row < ROWS; row++) {
                    if (one.hasWritten(row)) {
                        versions.append(row, seq, one.written[row]);
                    }
                }
            }
            one.end();
        }

        int sweepVersions() {
            int many = gatherSnaps();
            int gone = 0;
            for (int row = 0; row < ROWS; row++) {
                gone += versions.keepSeen(row, snaps, many);
            }
            return gone;
        }

        boolean hasLastRound() {
            for (int i = 0; i < INDEXES; i++) {
                if (indexes[i].state == LAST_ROUND) {
                    return true;
                }
            }
            return false;
        }

        boolean isBeingWritten(int row) {
            for (int t = 0; t < TRANSACTIONS; t++) {
                if (transactions[t].hasWritten(row)) {
                    return true;
                }
            }
            return false;
        }

        int openTransactions() {
            int bits = 0;
            for (int t = 0; t < TRANSACTIONS; t++) {
                if (transactions[t].open) {
                    bits |= 1 << t;
                }
            }
            return bits;
        }

        /** The entries that the table gives, or that it would give by the writes of one (null: of nobody). */
        void gatherEntries(Definition definition, Transaction writer, SortedCodes into) {
            into.clearAll();
            for (int row = 0; row < ROWS; row++) {
                boolean rewritten = writer != null && writer.hasWritten(row);
                int value = rewritten ? writer.written[row] : versions.latest(row);
                int code = definition.entryOf(value, row);
                if (code != NONE) {
                    into.include(code);
                }
            }
        }

        private boolean hasConflict(Transaction one) {
            for (int row = 0; row < ROWS; row++) {
                if (one.hasWritten(row) && versions.latestSeq(row) > one.snap) {
                    return true;
                }
            }
            return false;
        }

        private boolean hasFullRow(Transaction one) {
            for (int row = 0; row < ROWS; row++) {
                if (one.hasWritten(row) && versions.isFull(row)) {
                    return true;
                }
            }
            return false;
        }

        private boolean makesAlike(Transaction one, SortedCodes scratch) {
            for (int i = 0; i < INDEXES; i++) {
                OneIndex index = indexes[i];
                if (index.state != READY || !index.definition.unique) {
                    continue;
                }
                gatherEntries(index.definition, one, scratch);
                if (scratch.hasTwins()) {
                    return true;
                }
            }
            return false;
        }

        private int gatherSnaps() {
            int many = 0;
            snaps[many++] = seq;
            for (int t = 0; t < TRANSACTIONS; t++) {
                if (transactions[t].open) {
                    snaps[many++] = transactions[t].snap;
                }
            }
            for (int i = 0; i < INDEXES; i++) {
                if (indexes[i].state == SCAN) {
                    snaps[many++] = indexes[i].snap;
                }
            }
            return many;
        }
    }

    /** A query: its conditions and the keys by which what it finds is ordered. */
    private static final class Question {
        final Condition[] conditions = new Condition[CONDITIONS];
        int size;
        final Order keys = new Order();

        Question() {
            for (int k = 0; k < CONDITIONS; k++) {
                conditions[k] = new Condition();
            }
        }

        void clearAll() {
            size = 0;
            keys.clearAll();
        }

        boolean holdsFor(int value) {
            for (int k = 0; k < size; k++) {
                if (!conditions[k].holdsFor(value)) {
                    return false;
                }
            }
            return true;
        }

        boolean isServedBy(OneIndex one) {
            if (one.state != READY) {
                return false;
            }
            if (one.definition.partial && !asksFor(one.definition.where)) {
                return false;
            }
            return stretchSize(one.definition.order) > 0;
        }

        /** How many conditions its stretch has; none, if no condition bounds the first column. */
        int stretchSize(Order order) {
            int columns = stretchColumns(order);
            int many = 0;
            for (int k = 0; k < size; k++) {
                if (isInStretch(conditions[k], order, columns)) {
                    many++;
                }
            }
            return many;
        }

        int readsBy(OneIndex one) {
            Order order = one.definition.order;
            int columns = stretchColumns(order);
            int read = 1;
            for (int k = 0; k < one.entries.size; k++) {
                if (isRead(SortedCodes.rankIn(one.entries.codes[k]), order, columns)) {
                    read++;
                }
            }
            return read;
        }

        private boolean asksFor(Condition where) {
            for (int k = 0; k < size; k++) {
                if (conditions[k].isAs(where)) {
                    return true;
                }
            }
            return false;
        }

        /** The column behind those by = counts as well: with no condition by < or > it adds nothing. */
        private int stretchColumns(Order order) {
            int likes = 0;
            while (likes < order.size && isAskedByLike(order.columns[likes])) {
                likes++;
            }
            return likes + 1;
        }

        private boolean isAskedByLike(int column) {
            for (int k = 0; k < size; k++) {
                if (conditions[k].column == column && conditions[k].op == LIKE) {
                    return true;
                }
            }
            return false;
        }

        private static boolean isInStretch(Condition condition, Order order, int columns) {
            int place = order.placeOf(condition.column);
            return condition.op != UNLIKE && place != NONE && place < columns;
        }

        private boolean isRead(int rank, Order order, int columns) {
            for (int k = 0; k < size; k++) {
                Condition condition = conditions[k];
                if (!isInStretch(condition, order, columns)) {
                    continue;
                }
                if (!condition.fits(order.keyPart(rank, order.placeOf(condition.column)))) {
                    return false;
                }
            }
            return true;
        }
    }

    /** Bytes, and the reading of them as a definition or a query; keeps the fault of the latest one. */
    private static final class Tape {
        private static final char BLANK = ' ';

        private final int[] text = new int[TAPE_ROOM];
        int filled;
        private int length;
        private int place;
        int faultKind;
        int faultPlace = NONE;

        /** Four bytes, the highest first. */
        void append(int four) {
            for (int shift = 24; shift >= 0; shift -= 8) {
                if (filled < TAPE_ROOM) {
                    text[filled] = (four >>> shift) & 255;
                    filled++;
                }
            }
        }

        boolean readDefinition(int n, Definition into) {
            open(n);
            into.clearAll();
            if (!takeWord("index")) {
                return refuse(OUT_OF_PLACE);
            }
            if (!readOrder(into.order)) {
                return false;
            }
            into.unique = takeWord("unique");
            into.partial = takeWord("where");
            if (into.partial && !readCondition(into.where)) {
                return false;
            }
            return isAtEnd() || refuse(OUT_OF_PLACE);
        }

        boolean readQuestion(int n, Question into) {
            open(n);
            into.clearAll();
            if (!takeWord("find")) {
                return refuse(OUT_OF_PLACE);
            }
            if (columnHere() != NONE && !readConditions(into)) {
                return false;
            }
            if (takeWord("order") && !readOrder(into.keys)) {
                return false;
            }
            return isAtEnd() || refuse(OUT_OF_PLACE);
        }

        /** The first n bytes are the text; the tape is empty from then on, whatever they tell. */
        private void open(int n) {
            length = Math.max(0, Math.min(n, filled));
            filled = 0;
            place = 0;
            faultKind = 0;
            faultPlace = NONE;
            skipBlanks();
        }

        /** One turn more than there are columns: the fourth is always one that was told already. */
        private boolean readOrder(Order into) {
            for (int turn = 0; turn <= COLUMNS; turn++) {
                int column = columnHere();
                if (column == NONE) {
                    return refuse(OUT_OF_PLACE);
                }
                if (into.placeOf(column) != NONE) {
                    return refuse(COLUMN_AGAIN);
                }
                goTo(place + 1);
                into.append(column, takeWord("desc"));
                if (!takeSign(',')) {
                    return true;
                }
            }
            return refuse(OUT_OF_PLACE);
        }

        /** One turn more than conditions may be, to tell what stands where a fifth one would. */
        private boolean readConditions(Question into) {
            for (int turn = 0; turn <= CONDITIONS; turn++) {
                if (columnHere() == NONE) {
                    return refuse(OUT_OF_PLACE);
                }
                if (turn == CONDITIONS) {
                    return refuse(FIFTH_CONDITION);
                }
                if (!readCondition(into.conditions[turn])) {
                    return false;
                }
                into.size++;
                if (!takeWord("and")) {
                    return true;
                }
            }
            return refuse(OUT_OF_PLACE);
        }

        private boolean readCondition(Condition into) {
            int column = columnHere();
            if (column == NONE) {
                return refuse(OUT_OF_PLACE);
            }
            goTo(place + 1);
            int op = opHere();
            if (op == NONE) {
                return refuse(OUT_OF_PLACE);
            }
            goTo(place + 1);
            int digits = digitsHere();
            if (digits == 0) {
                return refuse(OUT_OF_PLACE);
            }
            if (digits > 2) {
                return refuse(LONG_NUMBER);
            }
            int number = byteAt(place) - '0';
            if (digits == 2) {
                number = number * 10 + byteAt(place + 1) - '0';
            }
            into.tell(column, op, number);
            goTo(place + digits);
            return true;
        }

        private boolean refuse(int kind) {
            faultKind = kind;
            faultPlace = place;
            return false;
        }

        private boolean isAtEnd() {
            return place >= length;
        }

        private int byteAt(int k) {
            return k >= 0 && k < length ? text[k] : NONE;
        }

        private void goTo(int k) {
            place = k;
            skipBlanks();
        }

        private void skipBlanks() {
            for (int k = place; k < length && text[k] == BLANK; k++) {
                place = k + 1;
            }
        }

        private int lettersHere() {
            int many = 0;
            for (int k = place; k < length && text[k] >= 'a' && text[k] <= 'z'; k++) {
                many++;
            }
            return many;
        }

        private int digitsHere() {
            int many = 0;
            for (int k = place; k < length && text[k] >= '0' && text[k] <= '9'; k++) {
                many++;
            }
            return many;
        }

        private boolean takeWord(String word) {
            if (lettersHere() != word.length()) {
                return false;
            }
            for (int k = 0; k < word.length(); k++) {
                if (byteAt(place + k) != word.charAt(k)) {
                    return false;
                }
            }
            goTo(place + word.length());
            return true;
        }

        private boolean takeSign(char sign) {
            if (byteAt(place) != sign) {
                return false;
            }
            goTo(place + 1);
            return true;
        }

        private int columnHere() {
            int column = byteAt(place) - 'a';
            return lettersHere() == 1 && column < COLUMNS ? column : NONE;
        }

        private int opHere() {
            switch (byteAt(place)) {
                case '=': return LIKE;
                case '!': return UNLIKE;
                case '<': return LESS;
                case '>': return MORE;
                default: return NONE;
            }
        }
    }
}
