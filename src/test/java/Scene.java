/**
 * Objects that have come some way, for the tests of edges. None of these ways takes more than some 150 calls, so that
 * what is asked behind it stays within the 512 calls for which an object is promised.
 */
final class Scene {
    /** A way that an object comes. */
    interface Way {
        void on(LateIndex x);
    }

    /** One call on an object, with its answer. */
    interface Call {
        int on(LateIndex x);
    }

    private Scene() {
    }

    static LateIndex after(Way... ways) {
        LateIndex x = new LateIndex();
        for (Way way : ways) {
            way.on(x);
        }
        return x;
    }

    static Way[] list(Way... ways) {
        return ways;
    }

    static Way then(Way first, Way second) {
        return x -> {
            first.on(x);
            second.on(x);
        };
    }

    /**
     * Something of everything: two indexes, one ready and unique, one catching up with both logs; transactions 0 with
     * eight writes, 1 with one, 2 with none, 3 not open; a query, a fault, a why, a tape, both images, eight to undo.
     */
    static void busy(LateIndex x) {
        Check.commit(x, Check.row(0, 1, 10, 0), Check.row(1, 2, 20, 0), Check.row(2, 3, 30, 0), Check.row(47, 99, 99, 99));
        Check.ready(x, 0, "index a unique");
        x.image(0);
        x.begin(2);
        x.begin(1);
        x.put(1, 5, 50, 50, 50);
        Check.build(x, 1, "index b desc, c where a > 0");
        Check.commit(x, Check.row(1, 2, 21, 0));
        x.work(1, 48);
        Check.commit(x, Check.row(2, 3, 31, 0), Check.row(3, 4, 31, 0));
        x.image(1);
        Check.query(x, "find a > 1 order b");
        Check.commit(x, Check.row(20, 1, 0, 0));
        Check.query(x, "find a > 1 order d");
        x.begin(0);
        for (int row = 10; row < 18; row++) {
            x.put(0, row, row, row, row);
        }
        Check.tape(x, "find a > 1 order b");
    }

    /** An index, of two rows that are alike, in a state. */
    static Way inState(int i, int state) {
        return x -> {
            Check.commit(x, Check.row(0, 1, 2, 3), Check.row(1, 1, 2, 4), Check.row(2, 5, 6, 7));
            int[] units = {0, 1, 48, 49, 200, 200};
            if (state > 0) {
                Check.build(x, i, state == 5 ? "index a, b unique" : "index a, b");
                x.work(i, units[state]);
            }
        };
    }

    /** A row gets so many more versions. */
    static Way versions(int row, int many) {
        return x -> {
            for (int k = 0; k < many; k++) {
                Check.commit(x, Check.row(row, k, k, k));
            }
        };
    }

    /** Commits that put just so many (up to 120) to the log of an index of column a, all into rows 8 to 31. */
    static Way putToLog(int many) {
        return x -> {
            int left = many;
            for (int turn = 0; turn < 9 && left > 0; turn++) {
                boolean first = turn % 4 == 0;
                int[][] rows = new int[Math.min(8, first ? left : left / 2)][];
                for (int k = 0; k < rows.length; k++) {
                    rows[k] = Check.row(8 + turn / 4 * 8 + k, 10 + turn, 0, 0);
                }
                left -= rows.length * (first ? 1 : 2);
                if (rows.length > 0) {
                    Check.commit(x, rows);
                }
            }
            if (left > 0) {
                Check.commit(x, Check.row(32, 50, 0, 0));
            }
        };
    }

    /** Every row is there: a = row, b = 99 - row, c = 7. */
    static void everyRow(LateIndex x) {
        for (int from = 0; from < 48; from += 8) {
            int[][] rows = new int[8][];
            for (int k = 0; k < 8; k++) {
                rows[k] = Check.row(from + k, from + k, 99 - from - k, 7);
            }
            Check.commit(x, rows);
        }
    }

    /** Eight writes of a transaction, to rows from one on. */
    static void eightWrites(LateIndex x, int t, int from) {
        for (int k = 0; k < 8; k++) {
            x.put(t, from + k, k, k, k);
        }
    }
}
