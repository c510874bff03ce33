import java.util.ArrayList;
import java.util.Arrays;
import java.util.Collections;
import java.util.List;
import java.util.Map;
import java.util.TreeMap;

/**
 * The document told once more, as plainly as the Java library lets it be told, with nothing shared with LateIndex:
 * keys stay lists of numbers, every undoable call copies all, every question is answered from the table anew.
 */
final class Model {
    static final class Txn {
        int snap;
        final TreeMap<Integer, int[]> writes = new TreeMap<>();
    }

    static final class Cond {
        int column;
        char op;
        int number;

        boolean holds(int[] row) {
            int v = row[column];
            return op == '=' ? v == number : op == '!' ? v != number : op == '<' ? v < number : v > number;
        }

        boolean equal(Cond o) {
            return column == o.column && op == o.op && number == o.number;
        }
    }

    static final class Key {
        int column;
        boolean desc;
    }

    static final class Def {
        final List<Key> keys = new ArrayList<>();
        boolean unique;
        Cond where;

        List<Integer> keyOf(int[] row) {
            List<Integer> key = new ArrayList<>();
            for (Key k : keys) {
                key.add(row[k.column]);
            }
            return key;
        }

        boolean takes(int[] row) {
            return row != null && (where == null || where.holds(row));
        }

        int compare(List<Integer> p, List<Integer> q) {
            return compareBy(keys, p, q);
        }
    }

    static int compareBy(List<Key> keys, List<Integer> p, List<Integer> q) {
        for (int k = 0; k < keys.size(); k++) {
            int d = Integer.compare(p.get(k), q.get(k));
            if (d != 0) {
                return keys.get(k).desc ? -d : d;
            }
        }
        return 0;
    }

    static final class Ent {
        final List<Integer> key;
        final int row;

        Ent(List<Integer> key, int row) {
            this.key = key;
            this.row = row;
        }

        boolean is(Ent o) {
            return o != null && row == o.row && key.equals(o.key);
        }
    }

    static final class Item {
        final boolean add;
        final Ent ent;

        Item(boolean add, Ent ent) {
            this.add = add;
            this.ent = ent;
        }
    }

    static final class Idx {
        int state;
        int snap;
        int next;
        int round;
        int ended;
        Def def;
        List<Ent> entries = new ArrayList<>();
        List<Item> now = new ArrayList<>();
        List<Item> later = new ArrayList<>();

        Idx copy() {
            Idx c = new Idx();
            c.state = state;
            c.snap = snap;
            c.next = next;
            c.round = round;
            c.ended = ended;
            c.def = def;
            c.entries = new ArrayList<>(entries);
            c.now = new ArrayList<>(now);
            c.later = new ArrayList<>(later);
            return c;
        }

        Ent entryOf(int row, int[] value) {
            return def.takes(value) ? new Ent(def.keyOf(value), row) : null;
        }

        void carryOut(Item item) {
            boolean there = false;
            for (Ent e : entries) {
                there |= e.is(item.ent);
            }
            if (item.add && !there) {
                entries.add(item.ent);
                entries.sort((p, q) -> {
                    int d = def.compare(p.key, q.key);
                    return d != 0 ? d : Integer.compare(p.row, q.row);
                });
            }
            if (!item.add) {
                entries.removeIf(e -> e.is(item.ent));
            }
        }

        boolean hasAlike() {
            for (Ent p : entries) {
                for (Ent q : entries) {
                    if (p.row != q.row && p.key.equals(q.key)) {
                        return true;
                    }
                }
            }
            return false;
        }

        void giveUp(int reason) {
            state = 0;
            round = 0;
            def = null;
            entries = new ArrayList<>();
            now = new ArrayList<>();
            later = new ArrayList<>();
            ended = reason;
        }

        void turn() {
            now = later;
            later = new ArrayList<>();
        }
    }

    static final class State {
        int seq;
        int shortLog = 3;
        int most = 5;
        List<TreeMap<Integer, int[]>> versions = new ArrayList<>();
        Txn[] txns = new Txn[4];
        Idx[] idxs = {new Idx(), new Idx()};

        State copy() {
            State c = new State();
            c.seq = seq;
            c.shortLog = shortLog;
            c.most = most;
            for (TreeMap<Integer, int[]> v : versions) {
                c.versions.add(new TreeMap<>(v));
            }
            for (int t = 0; t < 4; t++) {
                if (txns[t] != null) {
                    c.txns[t] = new Txn();
                    c.txns[t].snap = txns[t].snap;
                    c.txns[t].writes.putAll(txns[t].writes);
                }
            }
            c.idxs = new Idx[] {idxs[0].copy(), idxs[1].copy()};
            return c;
        }

        int[] table(int row) {
            return versions.get(row).lastEntry().getValue();
        }

        int[] at(int row, int snap) {
            return versions.get(row).floorEntry(snap).getValue();
        }

        int[] seen(int t, int row) {
            if (t == -1) {
                return table(row);
            }
            return txns[t].writes.containsKey(row) ? txns[t].writes.get(row) : at(row, txns[t].snap);
        }

        int there() {
            int n = 0;
            for (int row = 0; row < 48; row++) {
                n += table(row) == null ? 0 : 1;
            }
            return n;
        }
    }

    private static final class Faulty extends Exception {
        private static final long serialVersionUID = 1L;
        final int kind;
        final int place;

        Faulty(int kind, int place) {
            this.kind = kind;
            this.place = place;
        }
    }

    /** Cuts the text into tokens first, then reads those. */
    private static final class Tokens {
        final List<String> words = new ArrayList<>();
        final List<Integer> places = new ArrayList<>();
        int at;

        Tokens(String text) {
            java.util.regex.Matcher m = java.util.regex.Pattern.compile("[a-z]+|[0-9]+|[^ ]", java.util.regex.Pattern.DOTALL)
                .matcher(text);
            while (m.find()) {
                words.add(m.group());
                places.add(m.start());
            }
            words.add("");
            places.add(text.length());
        }

        String peek() {
            return words.get(at);
        }

        Faulty bad(int kind) {
            return new Faulty(kind, places.get(at));
        }

        boolean take(String word) {
            if (peek().equals(word)) {
                at++;
                return true;
            }
            return false;
        }

        void must(String word) throws Faulty {
            if (!take(word)) {
                throw bad(1);
            }
        }

        boolean column() {
            return peek().matches("[abc]");
        }

        List<Key> keys() throws Faulty {
            List<Key> keys = new ArrayList<>();
            do {
                if (!column()) {
                    throw bad(1);
                }
                Key key = new Key();
                key.column = peek().charAt(0) - 'a';
                for (Key k : keys) {
                    if (k.column == key.column) {
                        throw bad(3);
                    }
                }
                at++;
                key.desc = take("desc");
                keys.add(key);
            } while (take(","));
            return keys;
        }

        Cond cond() throws Faulty {
            if (!column()) {
                throw bad(1);
            }
            Cond cond = new Cond();
            cond.column = peek().charAt(0) - 'a';
            at++;
            if (!peek().matches("[=!<>]")) {
                throw bad(1);
            }
            cond.op = peek().charAt(0);
            at++;
            if (!peek().matches("[0-9]+")) {
                throw bad(1);
            }
            if (peek().length() > 2) {
                throw bad(2);
            }
            cond.number = Integer.parseInt(peek());
            at++;
            return cond;
        }
    }

    private State s = new State();
    private final List<State> elders = new ArrayList<>();
    private final State[] images = new State[2];
    private String tape = "";
    private int faultKind;
    private int faultPlace = -1;
    private int why;
    private List<Cond> conds;
    private List<Key> order;

    Model() {
        for (int row = 0; row < 48; row++) {
            TreeMap<Integer, int[]> v = new TreeMap<>();
            v.put(0, null);
            s.versions.add(v);
        }
    }

    private static boolean in(int v, int least, int greatest) {
        return v >= least && v <= greatest;
    }

    private void mark() {
        elders.add(s.copy());
        if (elders.size() > 8) {
            elders.remove(0);
        }
    }

    int begin(int t) {
        if (!in(t, 0, 3)) {
            return -2;
        }
        if (s.txns[t] != null) {
            return -5;
        }
        mark();
        s.txns[t] = new Txn();
        s.txns[t].snap = s.seq;
        return s.seq;
    }

    int put(int t, int row, int a, int b, int c) {
        if (!in(t, 0, 3) || !in(row, 0, 47)) {
            return -2;
        }
        if (!in(a, 0, 99) || !in(b, 0, 99) || !in(c, 0, 99)) {
            return -3;
        }
        return write(t, row, new int[] {a, b, c}, false);
    }

    int erase(int t, int row) {
        if (!in(t, 0, 3) || !in(row, 0, 47)) {
            return -2;
        }
        return write(t, row, null, true);
    }

    private int write(int t, int row, int[] value, boolean erase) {
        Txn x = s.txns[t];
        if (x == null) {
            return -5;
        }
        if (!x.writes.containsKey(row) && x.writes.size() == 8) {
            return -4;
        }
        mark();
        boolean saw = s.seen(t, row) != null;
        x.writes.put(row, value);
        return erase ? (saw ? 1 : 0) : x.writes.size();
    }

    int commit(int t) {
        if (!in(t, 0, 3)) {
            return -2;
        }
        Txn x = s.txns[t];
        if (x == null) {
            return -5;
        }
        mark();
        why = 0;
        if (x.writes.isEmpty()) {
            s.txns[t] = null;
            return s.seq;
        }
        if (s.idxs[0].state == 3 || s.idxs[1].state == 3) {
            why = 2;
            return 0;
        }
        for (int row : x.writes.keySet()) {
            if (s.versions.get(row).lastKey() > x.snap) {
                why = 1;
                s.txns[t] = null;
                return 0;
            }
        }
        for (int row : x.writes.keySet()) {
            if (s.versions.get(row).size() == 8) {
                why = 4;
                return 0;
            }
        }
        if (wouldBeAlike(x)) {
            why = 3;
            s.txns[t] = null;
            return 0;
        }
        for (Idx i : s.idxs) {
            follow(i, x);
        }
        s.seq++;
        for (Map.Entry<Integer, int[]> w : x.writes.entrySet()) {
            s.versions.get(w.getKey()).put(s.seq, w.getValue());
        }
        s.txns[t] = null;
        return s.seq;
    }

    private boolean wouldBeAlike(Txn x) {
        for (Idx i : s.idxs) {
            if (i.state != 4 || !i.def.unique) {
                continue;
            }
            List<List<Integer>> keys = new ArrayList<>();
            for (int row = 0; row < 48; row++) {
                int[] value = x.writes.containsKey(row) ? x.writes.get(row) : s.table(row);
                if (i.def.takes(value)) {
                    List<Integer> key = i.def.keyOf(value);
                    if (keys.contains(key)) {
                        return true;
                    }
                    keys.add(key);
                }
            }
        }
        return false;
    }

    private void follow(Idx i, Txn x) {
        if (i.state == 0) {
            return;
        }
        List<Item> items = new ArrayList<>();
        for (Map.Entry<Integer, int[]> w : x.writes.entrySet()) {
            Ent was = i.entryOf(w.getKey(), s.table(w.getKey()));
            Ent is = i.entryOf(w.getKey(), w.getValue());
            if (was != null && was.is(is)) {
                continue;
            }
            if (was != null) {
                items.add(new Item(false, was));
            }
            if (is != null) {
                items.add(new Item(true, is));
            }
        }
        if (i.state == 4) {
            for (Item item : items) {
                i.carryOut(item);
            }
        } else if (i.later.size() + items.size() > 120) {
            i.giveUp(3);
        } else {
            i.later.addAll(items);
        }
    }

    int why() {
        return why;
    }

    int roll(int t) {
        if (!in(t, 0, 3)) {
            return -2;
        }
        if (s.txns[t] == null) {
            return -5;
        }
        mark();
        int n = s.txns[t].writes.size();
        s.txns[t] = null;
        return n;
    }

    int see(int t, int row, int what) {
        if (!in(t, -1, 3) || !in(row, 0, 47) || !in(what, 0, 3)) {
            return -2;
        }
        if (t >= 0 && s.txns[t] == null) {
            return -5;
        }
        int[] value = s.seen(t, row);
        return what == 0 ? (value == null ? 0 : 1) : value == null ? -1 : value[what - 1];
    }

    int sweep() {
        mark();
        List<Integer> points = new ArrayList<>();
        points.add(s.seq);
        for (Txn x : s.txns) {
            if (x != null) {
                points.add(x.snap);
            }
        }
        for (Idx i : s.idxs) {
            if (i.state == 1) {
                points.add(i.snap);
            }
        }
        int gone = 0;
        for (TreeMap<Integer, int[]> v : s.versions) {
            List<Integer> stay = new ArrayList<>();
            for (int p : points) {
                stay.add(v.floorKey(p));
            }
            gone += v.size();
            v.keySet().retainAll(stay);
            gone -= v.size();
        }
        return gone;
    }

    int feed(int... five) {
        if (tape.length() + 20 > 100) {
            return -4;
        }
        StringBuilder b = new StringBuilder(tape);
        for (int f : five) {
            for (int k = 3; k >= 0; k--) {
                b.append((char) ((f >> (8 * k)) & 255));
            }
        }
        tape = b.toString();
        return tape.length();
    }

    private Tokens open(int n) {
        Tokens tokens = new Tokens(tape.substring(0, n));
        tape = "";
        faultKind = 0;
        faultPlace = -1;
        return tokens;
    }

    private int faulty(Faulty f) {
        faultKind = f.kind;
        faultPlace = f.place;
        return -30 - f.kind;
    }

    int build(int i, int n) {
        if (!in(i, 0, 1)) {
            return -2;
        }
        if (!in(n, 0, tape.length())) {
            return -3;
        }
        if (s.idxs[i].state != 0) {
            return -5;
        }
        Tokens tokens = open(n);
        Def def = new Def();
        try {
            tokens.must("index");
            def.keys.addAll(tokens.keys());
            def.unique = tokens.take("unique");
            if (tokens.take("where")) {
                def.where = tokens.cond();
            }
            tokens.must("");
        } catch (Faulty f) {
            return faulty(f);
        }
        mark();
        Idx idx = new Idx();
        idx.def = def;
        idx.state = 1;
        idx.snap = s.seq;
        s.idxs[i] = idx;
        return s.seq;
    }

    int fault(int what) {
        return what == 0 ? faultKind : what == 1 ? faultPlace : -1;
    }

    int work(int i, int n) {
        if (!in(i, 0, 1)) {
            return -2;
        }
        if (!in(n, 1, 200)) {
            return -3;
        }
        Idx x = s.idxs[i];
        if (!in(x.state, 1, 3)) {
            return -5;
        }
        mark();
        for (int k = 0; k < n; k++) {
            unit(x);
        }
        return x.state;
    }

    private void unit(Idx x) {
        switch (x.state) {
            case 1:
                Ent e = x.entryOf(x.next, s.at(x.next, x.snap));
                if (e != null) {
                    x.carryOut(new Item(true, e));
                }
                x.next++;
                if (x.next == 48) {
                    x.state = 2;
                    x.round = 1;
                    x.turn();
                }
                break;
            case 2:
                if (!x.now.isEmpty()) {
                    x.carryOut(x.now.remove(0));
                } else if (x.later.size() <= s.shortLog) {
                    x.state = 3;
                    x.turn();
                } else if (x.round >= s.most) {
                    x.giveUp(2);
                } else {
                    x.round++;
                    x.turn();
                }
                break;
            case 3:
                if (!x.now.isEmpty()) {
                    x.carryOut(x.now.remove(0));
                } else {
                    x.state = x.def.unique && x.hasAlike() ? 5 : 4;
                }
                break;
            default:
                break;
        }
    }

    int takeUp(int i) {
        if (!in(i, 0, 1)) {
            return -2;
        }
        Idx x = s.idxs[i];
        if (x.state != 5) {
            return -5;
        }
        mark();
        x.state = 2;
        x.round++;
        x.turn();
        return x.round;
    }

    int giveUp(int i) {
        if (!in(i, 0, 1)) {
            return -2;
        }
        int had = s.idxs[i].state;
        if (had == 0) {
            return -5;
        }
        mark();
        s.idxs[i].giveUp(1);
        return had;
    }

    int terms(int what, int v) {
        if (!in(what, 0, 1)) {
            return -2;
        }
        if (what == 0 ? !in(v, 0, 20) : !in(v, 1, 9)) {
            return -3;
        }
        mark();
        int was = what == 0 ? s.shortLog : s.most;
        if (what == 0) {
            s.shortLog = v;
        } else {
            s.most = v;
        }
        return was;
    }

    int index(int i, int what) {
        if (!in(i, 0, 1) || !in(what, 0, 15)) {
            return -2;
        }
        Idx x = s.idxs[i];
        if (what == 15) {
            return x.ended;
        }
        if (x.state == 0) {
            return Arrays.asList(2, 6, 9, 10, 11, 12).contains(what) ? -1 : 0;
        }
        Def d = x.def;
        if (in(what, 9, 11)) {
            int k = what - 9;
            return k >= d.keys.size() ? -1 : d.keys.get(k).column + (d.keys.get(k).desc ? 10 : 0);
        }
        int[] told = {x.state, x.entries.size(), x.state == 1 ? x.next : -1, x.now.size(), x.later.size(), x.round,
            x.state == 1 ? x.snap : -1, d.unique ? 1 : 0, d.keys.size(), 0, 0, 0, d.where == null ? -1 : d.where.column,
            d.where == null ? 0 : "=!<>".indexOf(d.where.op), d.where == null ? 0 : d.where.number};
        return told[what];
    }

    int entry(int i, int k, int what) {
        if (!in(i, 0, 1) || !in(what, 0, 3)) {
            return -2;
        }
        if (k < 0) {
            return -3;
        }
        return k >= s.idxs[i].entries.size() ? -1 : part(s.idxs[i].entries.get(k), what);
    }

    private static int part(Ent e, int what) {
        return what == 0 ? e.row : what > e.key.size() ? -1 : e.key.get(what - 1);
    }

    int logged(int i, int which, int k, int what) {
        if (!in(i, 0, 1) || !in(which, 0, 1) || !in(what, 0, 4)) {
            return -2;
        }
        if (k < 0) {
            return -3;
        }
        List<Item> log = which == 0 ? s.idxs[i].now : s.idxs[i].later;
        if (k >= log.size()) {
            return -1;
        }
        return what == 0 ? (log.get(k).add ? 1 : 0) : part(log.get(k).ent, what - 1);
    }

    int ahead(int i, int a, int b, int c) {
        return compareAll(i, new int[] {a, b, c}, true);
    }

    int same(int i, int a, int b, int c) {
        return compareAll(i, new int[] {a, b, c}, false);
    }

    private int compareAll(int i, int[] value, boolean ahead) {
        if (!in(i, 0, 1)) {
            return -2;
        }
        for (int v : value) {
            if (!in(v, 0, 99)) {
                return -3;
            }
        }
        Idx x = s.idxs[i];
        if (x.state != 4) {
            return -5;
        }
        int n = 0;
        for (Ent e : x.entries) {
            int d = x.def.compare(e.key, x.def.keyOf(value));
            n += (ahead ? d < 0 : d == 0) ? 1 : 0;
        }
        return n;
    }

    int reads(int column, int v) {
        if (!in(column, 0, 2)) {
            return -2;
        }
        if (!in(v, 0, 99)) {
            return -3;
        }
        int i = by(column);
        if (i == -1) {
            return s.there();
        }
        int n = 1;
        for (Ent e : s.idxs[i].entries) {
            n += e.key.get(0) == v ? 1 : 0;
        }
        return n;
    }

    int by(int column) {
        if (!in(column, 0, 2)) {
            return -2;
        }
        for (int i = 0; i < 2; i++) {
            Idx x = s.idxs[i];
            if (x.state == 4 && x.def.where == null && x.def.keys.get(0).column == column) {
                return i;
            }
        }
        return -1;
    }

    int query(int n) {
        if (!in(n, 0, tape.length())) {
            return -3;
        }
        Tokens tokens = open(n);
        List<Cond> c = new ArrayList<>();
        List<Key> k = new ArrayList<>();
        try {
            tokens.must("find");
            if (tokens.column()) {
                do {
                    if (c.size() == 4 && tokens.column()) {
                        throw tokens.bad(4);
                    }
                    c.add(tokens.cond());
                } while (tokens.take("and"));
            }
            if (tokens.take("order")) {
                k = tokens.keys();
            }
            tokens.must("");
        } catch (Faulty f) {
            return faulty(f);
        }
        conds = c;
        order = k;
        return c.size();
    }

    private List<Integer> foundRows(int t) {
        List<Integer> rows = new ArrayList<>();
        for (int row = 0; row < 48; row++) {
            int[] value = s.seen(t, row);
            boolean all = value != null;
            for (Cond c : conds) {
                all = all && c.holds(value);
            }
            if (all) {
                rows.add(row);
            }
        }
        Def d = new Def();
        d.keys.addAll(order);
        Collections.sort(rows, (p, q) -> d.compare(d.keyOf(s.seen(t, p)), d.keyOf(s.seen(t, q))));
        return rows;
    }

    int find(int t) {
        if (!in(t, -1, 3)) {
            return -2;
        }
        if ((t >= 0 && s.txns[t] == null) || conds == null) {
            return -5;
        }
        return foundRows(t).size();
    }

    int found(int t, int i) {
        if (!in(t, -1, 3)) {
            return -2;
        }
        if (i < 0) {
            return -3;
        }
        if ((t >= 0 && s.txns[t] == null) || conds == null) {
            return -5;
        }
        List<Integer> rows = foundRows(t);
        return i < rows.size() ? rows.get(i) : -1;
    }

    private List<Cond> stretch(Def d) {
        List<Cond> all = new ArrayList<>();
        for (Key k : d.keys) {
            List<Cond> of = new ArrayList<>();
            boolean like = false;
            for (Cond c : conds) {
                if (c.column == k.column && c.op != '!') {
                    of.add(c);
                    like |= c.op == '=';
                }
            }
            all.addAll(of);
            if (!like) {
                break;
            }
        }
        return all;
    }

    private boolean serves(Idx x) {
        if (x.state != 4) {
            return false;
        }
        boolean asked = x.def.where == null;
        boolean led = false;
        for (Cond c : conds) {
            asked = asked || c.equal(x.def.where);
            led = led || (c.column == x.def.keys.get(0).column && c.op != '!');
        }
        return asked && led;
    }

    private int readsBy(Idx x) {
        int n = 1;
        for (Ent e : x.entries) {
            int[] value = new int[3];
            for (int k = 0; k < e.key.size(); k++) {
                value[x.def.keys.get(k).column] = e.key.get(k);
            }
            boolean all = true;
            for (Cond c : stretch(x.def)) {
                all = all && c.holds(value);
            }
            n += all ? 1 : 0;
        }
        return n;
    }

    int plan(int what) {
        if (!in(what, 0, 4)) {
            return -2;
        }
        if (conds == null) {
            return -5;
        }
        int best = -1;
        int least = s.there();
        int bits = 0;
        for (int i = 0; i < 2; i++) {
            if (serves(s.idxs[i])) {
                bits += i + 1;
                if (readsBy(s.idxs[i]) < least) {
                    best = i;
                    least = readsBy(s.idxs[i]);
                }
            }
        }
        boolean sorted = order.isEmpty();
        if (best >= 0 && !sorted) {
            List<Key> keys = s.idxs[best].def.keys;
            sorted = order.size() <= keys.size();
            for (int k = 0; sorted && k < order.size(); k++) {
                sorted = order.get(k).column == keys.get(k).column && order.get(k).desc == keys.get(k).desc;
            }
        }
        int[] told = {best, least, sorted ? 1 : 0, best < 0 ? 0 : stretch(s.idxs[best].def).size(), bits};
        return told[what];
    }

    private List<Ent> tableEntries(Idx x) {
        Idx fresh = new Idx();
        fresh.def = x.def;
        for (int row = 0; row < 48; row++) {
            Ent e = x.entryOf(row, s.table(row));
            if (e != null) {
                fresh.carryOut(new Item(true, e));
            }
        }
        return fresh.entries;
    }

    int far(int i) {
        if (!in(i, 0, 1)) {
            return -2;
        }
        Idx x = s.idxs[i];
        if (x.state == 0) {
            return -5;
        }
        return missing(x.entries, tableEntries(x)) + missing(tableEntries(x), x.entries);
    }

    private static int missing(List<Ent> from, List<Ent> in) {
        int n = 0;
        for (Ent p : from) {
            boolean there = false;
            for (Ent q : in) {
                there |= p.is(q);
            }
            n += there ? 0 : 1;
        }
        return n;
    }

    int alike(int i, int k, int j) {
        if (!in(i, 0, 1)) {
            return -2;
        }
        if (k < -1 || j < 0) {
            return -3;
        }
        Idx x = s.idxs[i];
        if (x.state == 0) {
            return -5;
        }
        List<List<Integer>> groups = new ArrayList<>();
        List<Integer> last = null;
        for (Ent e : tableEntries(x)) {
            if (!e.key.equals(last)) {
                groups.add(new ArrayList<>());
            }
            groups.get(groups.size() - 1).add(e.row);
            last = e.key;
        }
        groups.removeIf(g -> g.size() < 2);
        if (k == -1) {
            return groups.size();
        }
        return k < groups.size() && j < groups.get(k).size() ? groups.get(k).get(j) : -1;
    }

    int units(int i, int w) {
        if (!in(i, 0, 1)) {
            return -2;
        }
        if (!in(w, 0, 5)) {
            return -3;
        }
        if (!in(s.idxs[i].state, 1, 3)) {
            return -5;
        }
        Idx x = s.idxs[i].copy();
        x.def = new Def();
        x.def.keys.addAll(s.idxs[i].def.keys);
        x.def.where = s.idxs[i].def.where;
        Item nothing = new Item(false, new Ent(new ArrayList<>(), -1));
        for (int done = 1; done <= 999; done++) {
            unit(x);
            if (!in(x.state, 1, 3)) {
                return done;
            }
            for (int k = 0; k < w && x.state < 3; k++) {
                x.later.add(nothing);
            }
        }
        return -1;
    }

    int free() {
        for (int row = 0; row < 48; row++) {
            boolean taken = s.table(row) != null;
            for (Txn x : s.txns) {
                taken |= x != null && x.writes.containsKey(row);
            }
            if (!taken) {
                return row;
            }
        }
        return -1;
    }

    int undo(int n) {
        if (!in(n, 1, 8) || n > elders.size()) {
            return -3;
        }
        for (int k = 0; k < n; k++) {
            s = elders.remove(elders.size() - 1);
        }
        return elders.size();
    }

    int image(int i) {
        if (!in(i, 0, 1)) {
            return -2;
        }
        images[i] = s.copy();
        return 0;
    }

    int restore(int i) {
        if (!in(i, 0, 1)) {
            return -2;
        }
        if (images[i] == null) {
            return -6;
        }
        s = images[i].copy();
        elders.clear();
        return 0;
    }

    int count(int what) {
        int versions = 0;
        for (TreeMap<Integer, int[]> v : s.versions) {
            versions += v.size();
        }
        int open = 0;
        for (int t = 0; t < 4; t++) {
            open += s.txns[t] == null ? 0 : 1 << t;
        }
        int waits = s.idxs[0].state == 3 || s.idxs[1].state == 3 ? 1 : 0;
        int[] told = {s.there(), s.seq, open, versions, waits, tape.length(), elders.size(), s.shortLog, s.most};
        if (in(what, 0, 8)) {
            return told[what];
        }
        if (in(what, 10, 13)) {
            return s.txns[what - 10] == null ? 0 : s.txns[what - 10].writes.size();
        }
        if (in(what, 20, 23)) {
            return s.txns[what - 20] == null ? -1 : s.txns[what - 20].snap;
        }
        return -1;
    }
}
