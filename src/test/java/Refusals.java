import java.util.ArrayList;
import java.util.List;

/**
 * Refused calls: each has its code and changes nothing. For that, two objects come the same way, one of them is refused
 * a call; then all that can be asked is asked of both, as they are and as they go back by undo() and restore().
 */
final class Refusals {
    private static final int QUESTIONS_AT_ONCE = 300;
    private static final List<Scene.Call> QUESTIONS = questions();
    private static final Scene.Way[] WAYS_BACK = {
        x -> { }, x -> x.undo(1), x -> x.undo(Math.max(1, x.count(6))), x -> x.restore(0), x -> x.restore(1)};

    private final Check check;

    Refusals(Check check) {
        this.check = check;
    }

    void refused(String name, int code, Scene.Way before, Scene.Call call) {
        check.due(name, code, call.on(Scene.after(before)));
        for (int k = 0; k < WAYS_BACK.length; k++) {
            Scene.Way back = WAYS_BACK[k];
            check.due(name + ", answers that changed, way back " + k, 0,
                differences(Scene.list(before, call::on, back), Scene.list(before, back)));
        }
    }

    /** A text with a fault: the tape is empty then and the fault is told, and nothing else changes. */
    void faulty(String name, int code, Scene.Way before, String text, Scene.Call call) {
        check.due(name, code, call.on(Scene.after(before, x -> Check.tape(x, text))));
        for (int k = 0; k < WAYS_BACK.length; k++) {
            Scene.Way back = WAYS_BACK[k];
            check.due(name + ", answers that changed, way back " + k, 0,
                differences(Scene.list(before, x -> Check.tape(x, text), call::on, x -> x.query(0), back),
                    Scene.list(before, x -> x.query(0), back)));
        }
    }

    private static int differences(Scene.Way[] one, Scene.Way[] other) {
        int many = 0;
        for (int from = 0; from < QUESTIONS.size(); from += QUESTIONS_AT_ONCE) {
            LateIndex x = Scene.after(one);
            LateIndex y = Scene.after(other);
            for (int q = from; q < Math.min(QUESTIONS.size(), from + QUESTIONS_AT_ONCE); q++) {
                many += QUESTIONS.get(q).on(x) == QUESTIONS.get(q).on(y) ? 0 : 1;
            }
        }
        return many;
    }

    private static List<Scene.Call> questions() {
        List<Scene.Call> all = new ArrayList<>();
        ofAll(all);
        ofRows(all);
        for (int i = 0; i < 2; i++) {
            ofIndex(all, i);
        }
        return all;
    }

    private static void ofAll(List<Scene.Call> all) {
        all.add(x -> x.why());
        all.add(x -> x.free());
        all.add(x -> x.fault(0));
        all.add(x -> x.fault(1));
        for (int k = 0; k < 24; k++) {
            int what = k;
            all.add(x -> x.count(what));
        }
        for (int k = 0; k < 5; k++) {
            int what = k;
            all.add(x -> x.plan(what));
            all.add(x -> x.find(what - 1));
            for (int j = 0; j < 12; j++) {
                int place = j;
                all.add(x -> x.found(what - 1, place));
            }
        }
        for (int k = 0; k < 3; k++) {
            int column = k;
            all.add(x -> x.by(column));
            all.add(x -> x.reads(column, 2));
        }
    }

    private static void ofRows(List<Scene.Call> all) {
        for (int k = -1; k < 4; k++) {
            int t = k;
            for (int r = 0; r < 48; r++) {
                int row = r;
                all.add(x -> x.see(t, row, 1));
                all.add(x -> x.see(t, row, 2));
                all.add(x -> x.see(t, row, 3));
            }
        }
    }

    private static void ofIndex(List<Scene.Call> all, int i) {
        for (int k = 0; k < 16; k++) {
            int what = k;
            all.add(x -> x.index(i, what));
        }
        for (int k = 0; k < 12; k++) {
            int place = k;
            for (int w = 0; w < 5; w++) {
                int what = w;
                all.add(x -> x.entry(i, place, what));
                all.add(x -> x.logged(i, 0, place, what));
                all.add(x -> x.logged(i, 1, place, what));
            }
        }
        for (int k = 0; k < 6; k++) {
            int w = k;
            all.add(x -> x.units(i, w));
        }
        all.add(x -> x.far(i));
        all.add(x -> x.alike(i, -1, 0));
        all.add(x -> x.alike(i, 0, 0));
        all.add(x -> x.ahead(i, 50, 50, 50));
        all.add(x -> x.same(i, 2, 2, 2));
    }
}
