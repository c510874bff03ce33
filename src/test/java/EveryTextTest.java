/**
 * Every text that can stand up to some word, ended there and with each word of a list behind it. What is due is looked up
 * in tables of what may stand where, drawn from the document's lines on a DEFINITION and a QUERY.
 */
public final class EveryTextTest {
    private static final Check CHECK = new Check("every text");

    /** A place's name (with a full stop: the text may end there), then each word that may stand there and the place behind. */
    private static final String[] DEFINITION = {
        "start index:column",
        "column KEY:told",
        "told. desc:turned ,:column unique:unique where:where",
        "turned. ,:column unique:unique where:where",
        "unique. where:where",
        "where COLUMN:sign",
        "sign OP:number",
        "number NUMBER:over",
        "over."};
    private static final String[] QUERY = {
        "start find:first",
        "first. COND:sign order:key",
        "sign OP:number",
        "number NUMBER:more",
        "more. and:cond order:key",
        "cond COND:sign",
        "key KEY:told",
        "told. desc:turned ,:key",
        "turned. ,:key"};
    private static final String[] WORDS = {
        "index", "find", "unique", "where", "order", "and", "desc", "a", "b", "c", ",", "=", "!", "<", ">", "7", "05", "99",
        "d", "z", "ab", "az", "des", "descs", "100", "0000", ";", "A", "-", "\n", "\u00e1"};
    private static final int CONDS = 4;
    private static final int CALLS_OF_AN_OBJECT = 500;
    private static final int CALLS_OF_A_TEXT = 10;

    private final String[] places;
    private final boolean asks;
    private final boolean wide;
    private LateIndex x = new LateIndex();
    private int calls;

    private EveryTextTest(String[] places, boolean wide) {
        this.places = places;
        this.asks = places == QUERY;
        this.wide = wide;
    }

    public static void main(String[] args) {
        for (boolean wide : new boolean[] {false, true}) {
            new EveryTextTest(DEFINITION, wide).from("start", "", "", 0);
            new EveryTextTest(QUERY, wide).from("start", "", "", 0);
        }
        CHECK.close();
    }

    private void from(String place, String text, String columnsTold, int conds) {
        String line = lineOf(place);
        String ended = text + (wide ? " " : "");
        boolean mayEnd = line.charAt(place.length()) == '.';
        is(ended, mayEnd ? 0 : 1, mayEnd ? -1 : ended.length(), conds);
        for (String word : WORDS) {
            String longer = joined(text, word);
            int at = longer.length() - word.length();
            String step = stepBy(line, word);
            if (step == null) {
                isFaulty(longer, 1, at);
            } else if (step.startsWith("NUMBER:") && word.length() > 2) {
                isFaulty(longer, 2, at);
            } else if (step.startsWith("KEY:") && columnsTold.contains(word)) {
                isFaulty(longer, 3, at);
            } else if (step.startsWith("COND:") && conds == CONDS) {
                isFaulty(longer, 4, at);
            } else if (goesOnBehind(word)) {
                from(step.substring(step.indexOf(':') + 1), longer, step.startsWith("KEY:") ? columnsTold + word : columnsTold,
                    step.startsWith("COND:") ? conds + 1 : conds);
            }
        }
    }

    private String lineOf(String place) {
        for (String line : places) {
            if (line.startsWith(place + " ") || line.startsWith(place + ".")) {
                return line;
            }
        }
        throw new IllegalStateException(place);
    }

    private static String stepBy(String line, String word) {
        for (String step : line.substring(line.indexOf(' ') + 1).split(" ")) {
            int end = step.lastIndexOf(':');
            if (end > 0 && isOf(step.substring(0, end), word)) {
                return step;
            }
        }
        return null;
    }

    private static boolean isOf(String kind, String word) {
        switch (kind) {
            case "KEY": case "COLUMN": case "COND": return word.matches("[abc]");
            case "OP": return word.matches("[=!<>]");
            case "NUMBER": return word.matches("[0-9]+");
            default: return word.equals(kind);
        }
    }

    /** A query's conditions are too many to go on behind every sign and number. */
    private boolean goesOnBehind(String word) {
        return !asks || !word.matches("[!<>]|05|99");
    }

    private String joined(String text, String word) {
        if (text.isEmpty()) {
            return wide ? " " + word : word;
        }
        char last = text.charAt(text.length() - 1);
        char first = word.charAt(0);
        boolean runsTogether = Character.isLetter(last) && first >= 'a' && first <= 'z'
            || Character.isDigit(last) && Character.isDigit(first);
        return text + (wide || runsTogether ? " " : "") + word;
    }

    /** What comes behind the first fault doesn't matter. */
    private void isFaulty(String text, int fault, int at) {
        is(text, fault, at, 0);
        is(text + " 123 ,a", fault, at, 0);
    }

    private void is(String text, int fault, int at, int conds) {
        calls += CALLS_OF_A_TEXT;
        if (calls > CALLS_OF_AN_OBJECT) {
            x = new LateIndex();
            calls = CALLS_OF_A_TEXT;
        }
        int answer = asks ? Check.query(x, text) : Check.build(x, 0, text);
        if (answer != (fault == 0 ? conds : -30 - fault) || x.fault(0) != fault || x.fault(1) != at) {
            CHECK.dueAll("'" + text + "', its fault and place", (fault == 0 ? conds : -30 - fault) + ", " + fault + ", " + at, answer,
                x.fault(0), x.fault(1));
        } else {
            CHECK.due(text, 0, x.count(5));
        }
        if (!asks && answer >= 0) {
            x.giveUp(0);
        }
    }
}
