import java.util.ArrayList;
import java.util.List;

/**
 * The works as the document lets it be used: no object gets more than 512 calls. Calls that change
 * something are kept; when an object has had its 512, they are done again on a new one, and what
 * only looks goes on there. So a test may look at as much as it likes.
 */
final class Works {
    static final int MOST_CALLS = 512;

    private interface Ask {
        int answer(MirrorWorks object);
    }

    private final List<Ask> changes = new ArrayList<>();
    private MirrorWorks object = new MirrorWorks();
    private int calls = 0;

    /** Another object that has had the same calls. */
    Works twin() {
        Works twin = new Works();
        twin.changes.addAll(changes);
        twin.startAgain();
        return twin;
    }

    /** The object that has the calls now. */
    MirrorWorks object() {
        return object;
    }

    int changeCount() {
        return changes.size();
    }

    private void startAgain() {
        object = new MirrorWorks();
        for (Ask change : changes) {
            Check.of(() -> change.answer(object));
        }
        calls = changes.size();
    }

    private int look(Ask ask) {
        if (calls == MOST_CALLS) {
            startAgain();
        }
        if (calls == MOST_CALLS) {
            throw new AssertionError("the test goes beyond " + MOST_CALLS + " calls");
        }
        calls++;
        return ask.answer(object);
    }

    private int change(Ask ask) {
        return look(object -> {
            changes.add(ask);
            return ask.answer(object);
        });
    }

    void feed(int a, int b, int c, int d, int e) {
        change(o -> {
            o.feed(a, b, c, d, e);
            return 0;
        });
    }

    int end(int n) {
        return change(o -> o.end(n));
    }

    int make(int kind, int mode, int time) {
        return change(o -> o.make(kind, mode, time));
    }

    int choose() {
        return change(MirrorWorks::choose);
    }

    int write(int at) {
        return change(o -> o.write(at));
    }

    void cut(int length) {
        change(o -> {
            o.cut(length);
            return 0;
        });
    }

    void set(int mode, int time, boolean locked) {
        change(o -> {
            o.set(mode, time, locked);
            return 0;
        });
    }

    int remove() {
        return change(MirrorWorks::remove);
    }

    int begin(int time) {
        return change(o -> o.begin(time));
    }

    int prune() {
        return change(MirrorWorks::prune);
    }

    int recover() {
        return change(MirrorWorks::recover);
    }

    int step(int n) {
        return change(o -> o.step(n));
    }

    int crash(int n) {
        return change(o -> o.crash(n));
    }

    int restore() {
        return change(MirrorWorks::restore);
    }

    int verify() {
        return change(MirrorWorks::verify);
    }

    int command() {
        return change(MirrorWorks::command);
    }

    int entry(int tree, int i, int what) {
        return look(o -> o.entry(tree, i, what));
    }

    int at(int tree, int i, boolean path, int k) {
        return look(o -> o.at(tree, i, path, k));
    }

    int sum(int i, int k) {
        return look(o -> o.sum(i, k));
    }

    int about(int what) {
        return look(o -> o.about(what));
    }

    int disk(int sort) {
        return look(o -> o.disk(sort));
    }

    int output() {
        return look(MirrorWorks::output);
    }

    int outputAt(int i) {
        return look(o -> o.outputAt(i));
    }

    int session(int i, int what) {
        return look(o -> o.session(i, what));
    }
}
