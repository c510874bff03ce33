/** Counts answers that are not as due, and helps to write texts onto a tape. */
final class Check {
    private final String title;
    private String sentence = "";
    private int askedOfSentence = 1;
    private int sentences;
    private int asked;
    private int wrong;

    Check(String title) {
        this.title = title;
    }

    /** What is checked from here on is of one sentence of the document, told by its promise and its words. */
    void of(String told) {
        endSentence();
        sentence = told + ": ";
        sentences++;
        askedOfSentence = 0;
    }

    private void endSentence() {
        if (askedOfSentence == 0) {
            complain(sentence + "nothing was asked");
        }
    }

    void due(String call, int want, int got) {
        asked++;
        askedOfSentence++;
        if (want != got) {
            complain(sentence + call + " answered " + got + ", due is " + want);
        }
    }

    private void complain(String what) {
        wrong++;
        System.out.println(title + ": " + what);
    }

    void dueAll(String call, String want, int... got) {
        due(call + " gives [" + want + "] but " + java.util.Arrays.toString(got), 1,
            java.util.Arrays.toString(got).equals("[" + want + "]") ? 1 : 0);
    }

    void close() {
        endSentence();
        System.out.println(title + ": " + (sentences > 0 ? sentences + " sentences, " : "") + asked + " answers, " + wrong
            + " wrong");
        if (wrong != 0 || asked == 0) {
            System.exit(1);
        }
    }

    /** Feeds a text, filled up with zeros to twenties; answers its length. */
    static int tape(LateIndex x, String text) {
        int[] bytes = new int[(text.length() + 19) / 20 * 20];
        for (int k = 0; k < text.length(); k++) {
            bytes[k] = text.charAt(k);
        }
        for (int k = 0; k < bytes.length; k += 20) {
            x.feed(four(bytes, k), four(bytes, k + 4), four(bytes, k + 8), four(bytes, k + 12), four(bytes, k + 16));
        }
        return text.length();
    }

    private static int four(int[] bytes, int k) {
        return bytes[k] << 24 | bytes[k + 1] << 16 | bytes[k + 2] << 8 | bytes[k + 3];
    }

    static int build(LateIndex x, int i, String text) {
        return x.build(i, tape(x, text));
    }

    static int query(LateIndex x, String text) {
        return x.query(tape(x, text));
    }

    /** Commits rows, each told as {row, a, b, c} or {row} to erase it, by transaction 3. */
    static int commit(LateIndex x, int[]... rows) {
        x.begin(3);
        for (int[] row : rows) {
            if (row.length == 1) {
                x.erase(3, row[0]);
            } else {
                x.put(3, row[0], row[1], row[2], row[3]);
            }
        }
        return x.commit(3);
    }

    static int[] row(int... numbers) {
        return numbers;
    }

    /** A ready index of a new object's rows. */
    static void ready(LateIndex x, int i, String text) {
        build(x, i, text);
        x.work(i, 200);
    }

    static int[] entries(LateIndex x, int i) {
        int[] rows = new int[Math.max(0, x.index(i, 1))];
        for (int k = 0; k < rows.length; k++) {
            rows[k] = x.entry(i, k, 0);
        }
        return rows;
    }

    static int[] foundRows(LateIndex x, int t) {
        int[] rows = new int[Math.max(0, x.find(t))];
        for (int k = 0; k < rows.length; k++) {
            rows[k] = x.found(t, k);
        }
        return rows;
    }
}
