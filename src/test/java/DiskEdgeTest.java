import java.nio.charset.StandardCharsets;
import java.security.MessageDigest;
import java.security.NoSuchAlgorithmException;
import java.util.Arrays;

/** The edges that promises 10 to 21 and 25 name: what is done to the disk, and what can be looked at. */
public final class DiskEdgeTest {
    private static final int MAX = Integer.MAX_VALUE;
    private static final int MIN = Integer.MIN_VALUE;
    private static final int[] NONE_BELOW = {MIN, MIN + 1, -2, -1};

    private DiskEdgeTest() {
    }

    /** Session 100 has a directory d and a file d/f with abc, session 200 the file with abcd; in a state. */
    private static Works at(int state) {
        Works x = new Works();
        Check.make(x, "d", 2, 1, 1);
        Check.make(x, "d/f", 1, 2, 2);
        Check.write(x, "abc", 0);
        Check.session(x, 100);
        Check.write(x, "d", 3);
        Check.session(x, 200);
        Check.restore(x, "100");
        if (state == 1) {
            x.begin(300);
            x.step(1);
        } else if (state > 1) {
            Check.prune(x, "now");
            x.step(1);
        }
        if (state > 2) {
            x.crash(0);
        }
        if (state == 4) {
            x.recover();
            x.step(1);
        }
        Check.due("state", x.about(0), state);
        return x;
    }

    private static Works full() {
        Works x = new Works();
        for (int i = 0; i < 30; i++) {
            Check.session(x, i);
        }
        return x;
    }

    private static void begins() {
        Check.sentence("A session of a time is UNDER WAY: how many OPERATIONS it will do.");
        Works x = new Works();
        Check.tape(x, "z");
        Check.due("the fewest", x.begin(0), 7);
        Check.due("under way", x.about(0), 1);
        Check.due("none is done", x.about(2) + x.about(7), 0);
        Check.due("nothing is on the disk yet", Check.disk(x), "0 0 0 0 0 0 0");
        Check.due("the tape stays", x.about(6), 1);
        Works y = new Works();
        for (int i = 0; i < 40; i++) {
            Check.make(y, "a" + i, 1, 0, 0);
        }
        Check.due("forty new", y.begin(0), 7 + 40 * 6);
        Check.finish(y);
        for (int i = 0; i < 40; i++) {
            Check.choose(y, "a" + i);
            y.remove();
        }
        Check.due("forty gone", y.twin().begin(1), 7 + 40 * 5);
        Check.make(y, "b", 1, 0, 0);
        Check.due("forty gone and one new", y.begin(1), 7 + 40 * 5 + 6);
        Check.due("all of them", y.step(400), 213);
        Check.sentence("IllegalArgumentException: the time is below 0 or not above that of the latest session (with C/S).");
        Works z = new Works();
        for (int time : NONE_BELOW) {
            Check.refused("begin(" + time + ")", z, () -> z.begin(time), Check.ARGUMENT);
        }
        Check.session(z, 0);
        for (int time : new int[] {MIN, -1, 0}) {
            Check.refused("behind 0, begin(" + time + ")", z, () -> z.begin(time), Check.ARGUMENT);
        }
        Check.due("1", z.begin(1), 7);
        Check.finish(z);
        Check.due("far above", z.begin(1000), 7);
        z.step(4);
        z.crash(0);
        Check.command(z, "check");
        Check.refused("1000 was undone, 1 was not", z, () -> z.begin(1), Check.ARGUMENT);
        Check.due("the latest has time 1", z.begin(2), 7);
        Check.finish(z);
        Check.session(z, MAX);
        for (int time : new int[] {MIN, -1, 0, 2, MAX - 1, MAX}) {
            Check.refused("behind the last of times, begin(" + time + ")", z, () -> z.begin(time), Check.ARGUMENT);
        }
        Check.prune(z, "now");
        Check.finish(z);
        Check.refused("pruned, still the latest", z, () -> z.begin(MAX), Check.ARGUMENT);
    }

    private static void beginsNot() {
        Check.sentence("IllegalStateException: it is not AT REST, or there are 30 sessions. (This first.)");
        for (int state = 1; state <= 4; state++) {
            Works x = at(state);
            for (int time : new int[] {1000, 200, -1, MAX}) {
                Check.refused("begin(" + time + ") in state " + state, x, () -> x.begin(time), Check.STATE);
            }
        }
        Works x = full();
        for (int time : new int[] {30, 29, 0, -1, MIN, MAX}) {
            Check.refused("begin(" + time + ") behind 30", x, () -> x.begin(time), Check.STATE);
        }
        Check.prune(x, "29B");
        Check.finish(x);
        Check.refused("none was pruned", x, () -> x.begin(30), Check.STATE);
        Check.prune(x, "28B");
        Check.refused("it prunes", x, () -> x.begin(30), Check.STATE);
        Check.finish(x);
        Check.due("29", x.begin(30), 7);
    }

    private static void prunes() {
        Check.sentence("It PRUNES up to the session that the words on the tape (which is empty then) mean: how many OPERATIONS it will do.");
        Works x = at(0);
        Check.due("up to 100", Check.prune(x.twin(), "100"), 3);
        Check.tape(x, "200");
        Check.due("up to 200", x.prune(), 6);
        Check.due("it prunes", x.about(0), 2);
        Check.due("the tape", x.about(6), 0);
        Check.due("nothing is done yet", Check.disk(x), "1 0 2 2 0 2 0");
        Check.due("all 30", Check.prune(full(), "now"), 29 + 1 + 29 + 1);
        Check.due("none of 30", Check.prune(full(), "29B"), 2);
        Check.sentence("IllegalArgumentException: they are no time, or mean none. IllegalStateException: it is not AT REST (this first, the"
                + " tape stays).");
        Works y = at(0);
        for (String none : new String[] {"", " ", "x", "99", "2B", "101s", "now ", " now", "0000000200", "1s1s", "200 200"}) {
            Check.tape(y, none);
            Check.refusedAndTaken("prune [" + none + "]", y, y::prune, Check.ARGUMENT);
            Check.tape(y, none);
            Check.refusedAndTaken("restore [" + none + "]", y, y::restore, Check.ARGUMENT);
            Check.tape(y, none);
            Check.refusedAndTaken("verify [" + none + "]", y, y::verify, Check.ARGUMENT);
        }
        for (int state = 1; state <= 4; state++) {
            for (String words : new String[] {"now", "x", "99", ""}) {
                Works z = at(state);
                Check.tape(z, words);
                Check.refusedAndKept("prune [" + words + "] in state " + state, z, z::prune, Check.STATE);
                Check.refusedAndKept("restore [" + words + "] in state " + state, z, z::restore, Check.STATE);
                Check.refusedAndKept("verify [" + words + "] in state " + state, z, z::verify, Check.STATE);
            }
        }
        Works z = new Works();
        Check.tape(z, "now");
        Check.refusedAndTaken("without sessions", z, z::prune, Check.ARGUMENT);
    }

    private static void recovers() {
        Check.sentence("It RECOVERS: how many OPERATIONS it will do. IllegalStateException: it is not BROKEN.");
        for (int state : new int[] {0, 1, 2, 4}) {
            Works x = at(state);
            Check.tape(x, "z");
            Check.refusedAndKept("in state " + state, x, x::recover, Check.STATE);
        }
        Works x = at(3);
        Check.tape(x, "z");
        Check.due("broken", x.recover(), 2);
        Check.due("it recovers", x.about(0), 4);
        Check.due("the tape stays", x.about(6), 1);
        Works y = new Works();
        y.begin(1);
        y.crash(0);
        Check.due("the fewest", y.recover(), 1);
    }

    private static void steps() {
        Check.sentence("What is UNDER WAY, PRUNES or RECOVERS does its next n OPERATIONS (n 0 .. 400), as many as there are; behind the last"
                + " one it is AT REST: how many.");
        for (int state : new int[] {1, 2, 4}) {
            Works x = at(state);
            int all = state == 1 ? 7 : state == 2 ? 6 : 2;
            Check.refused("step(0) in state " + state, x, () -> x.step(0), 0);
            Check.due("as many as there are", x.twin().step(400), all - 1);
            Check.due("just as many", x.twin().step(all - 1), all - 1);
            Check.due("one more than there are", x.twin().step(all), all - 1);
            Check.due("all but one", x.step(all - 2), all - 2);
            Check.due("not yet at rest", x.about(0), state);
            Check.due("done", x.about(2), all - 1);
            Check.due("the last one", x.step(1), 1);
            Check.due("at rest", x.about(0), 0);
            Check.due("none is done of nothing", x.about(2), 0);
        }
        Works y = new Works();
        for (int i = 0; i < 40; i++) {
            Check.make(y, "a" + i, 1, 0, 0);
        }
        y.begin(0);
        y.step(400);
        for (int i = 0; i < 40; i++) {
            Check.choose(y, "a" + i);
            y.cut(0);
            y.end(1);
            y.write(0);
        }
        Check.due("forty other", y.begin(1), 7 + 40 * 8);
        Check.due("in parts", y.step(326), 326);
        Check.due("the last", y.step(400), 1);
        most();
    }

    /** More than 400 operations, for which more than one step is needed. */
    private static void most() {
        Works x = new Works();
        Check.make(x, "d", 2, 0, 0);
        for (int i = 0; i < 39; i++) {
            Check.make(x, "d/" + i, 1, 0, 0);
        }
        x.begin(0);
        x.step(400);
        Check.choose(x, "d");
        x.remove();
        for (int i = 0; i < 40; i++) {
            Check.make(x, "a" + i, 1, 0, 0);
        }
        Check.due("39 gone, 40 new", x.begin(1), 7 + 39 * 5 + 40 * 6);
        Check.due("400 at once", x.step(400), 400);
        Check.due("still under way", x.about(0), 1);
        Check.due("so many are done", x.about(2), 400);
        Check.due("the others", x.step(400), 42);
        Check.due("at rest", x.about(0), 0);
    }

    private static void stepsNot() {
        Check.sentence("IllegalStateException: nothing of these. IllegalArgumentException: another n.");
        for (int state : new int[] {0, 3}) {
            Works x = at(state);
            for (int n : new int[] {0, 1, 400, 401, -1, MIN, MAX}) {
                Check.refused("step(" + n + ") in state " + state, x, () -> x.step(n), Check.STATE);
            }
        }
        for (int state : new int[] {1, 2, 4}) {
            Works x = at(state);
            for (int n : new int[] {MIN, -400, -1, 401, 402, MAX}) {
                Check.refused("step(" + n + ") in state " + state, x, () -> x.step(n), Check.ARGUMENT);
            }
        }
    }

    private static void crashes() {
        Check.sentence("of those behind the last SYNC the first n operations have been done, or all if there are fewer: how many of these.");
        Works x = at(1);
        for (int n : new int[] {0, 1, 2, 400, MAX}) {
            Works y = x.twin();
            Check.due("one is behind a SYNC of before, crash(" + n + ")", y.crash(n), Math.min(n, 1));
            Check.due("B/S", y.disk(4), Math.min(n, 1));
            Check.due("broken", y.about(0), 3);
        }
        x.step(1);
        for (int n : new int[] {0, 1, MAX}) {
            Works y = x.twin();
            Check.due("none is behind the SYNC, crash(" + n + ")", y.crash(n), 0);
            Check.due("B/S stays", y.disk(4), 1);
        }
        Works z = at(0);
        z.begin(300);
        Check.due("none is done at all", z.crash(MAX), 0);
        Check.due("broken then", z.about(0), 3);
        Check.sentence("IllegalStateException: nothing of these. IllegalArgumentException: n is below 0.");
        for (int state : new int[] {0, 3}) {
            Works y = at(state);
            for (int n : new int[] {0, 1, -1, MIN, MAX}) {
                Check.refused("crash(" + n + ") in state " + state, y, () -> y.crash(n), Check.STATE);
            }
        }
        for (int state : new int[] {1, 2, 4}) {
            Works y = at(state);
            for (int n : NONE_BELOW) {
                Check.refused("crash(" + n + ") in state " + state, y, () -> y.crash(n), Check.ARGUMENT);
            }
        }
    }

    private static void restores() {
        Check.sentence("THE RESULT is the TREE of the session that the words on the tape (which is empty then) mean, as it is found on the"
                + " disk: how many entries.");
        Works x = at(0);
        Check.tape(x, "200");
        Check.due("200", x.restore(), 2);
        Check.due("the tape", x.about(6), 0);
        Check.due("its tree", Check.tree(x, 2), "d 2 1 1 [];d/f 1 2 2 [abcd];");
        Check.restore(x, "199");
        Check.due("the tree of 100", Check.tree(x, 2), "d 2 1 1 [];d/f 1 2 2 [abc];");
        x.cut(0);
        x.set(9, 9, false);
        Check.due("the source alone changes", Check.tree(x, 2), "d 2 1 1 [];d/f 1 2 2 [abc];");
        Check.choose(x, "d");
        x.remove();
        Check.session(x, 300);
        Check.due("the result stays through sessions", Check.tree(x, 2), "d 2 1 1 [];d/f 1 2 2 [abc];");
        Check.due("an empty tree", Check.restore(x, "300"), 0);
        Check.due("no entries", x.about(4), 0);
        Check.due("all of the oldest", Check.restore(x, "2B"), 2);
        Check.due("it leads back", Check.tree(x, 2), "d 2 1 1 [];d/f 1 2 2 [abc];");
        Check.prune(x, "now");
        Check.finish(x);
        Check.due("the result stays through pruning", x.about(4), 2);
        Check.due("nothing is left of it on the disk", Check.disk(x), "0 0 0 1 0 1 0");
        wayBack();
        Check.sentence("How many entries of that TREE have content whose sum is not the one that was told with the session: 0 always, if the"
                + " works is right. As for restore(), which it is, too (THE RESULT is that TREE).");
        Works y = at(0);
        Check.due("200", Check.verify(y, "200"), 0);
        Check.due("the tree of 200", Check.tree(y, 2), "d 2 1 1 [];d/f 1 2 2 [abcd];");
        Check.due("100", Check.verify(y, "1B"), 0);
        Check.due("the tree of 100", Check.tree(y, 2), "d 2 1 1 [];d/f 1 2 2 [abc];");
        Check.due("no entries", Check.verify(x, "300"), 0);
        Check.due("no result", x.about(4), 0);
    }

    /** What leads back is found where nothing else is on the disk, and words behind those of a command. */
    private static void wayBack() {
        Works x = new Works();
        Check.file(x, "a", "abc");
        Check.session(x, 1);
        Check.command(x, "prune now");
        x.remove();
        Check.session(x, 2);
        Check.due("one I alone", Check.disk(x), "0 0 1 2 0 2 0");
        Check.due("it leads back", Check.verify(x, "1"), 0);
        Check.due("to what was there", Check.tree(x, 2), "a 1 420 7 [abc];");
        Check.command(x, "   sessions");
        Check.due("words behind a command with blanks ahead", Check.restore(x, "now"), 0);
        Check.command(x, "list 1");
        Check.due("words behind a longer command", Check.restore(x, "1"), 1);
    }

    private static void entry() {
        Check.sentence("Of a tree (0 the source, 2 the result), of its i-th entry in ORDER: KIND (what = 0), MODE (1), TIME (2), how long its"
                + " content is (3), how many bytes its path has (4), 1 if it is LOCKED, else 0 (5; 0 in the result).");
        Works x = at(0);
        x.set(4095, MAX, true);
        int[][] facts = {{2, 1, 1, 0, 1, 0}, {1, 4095, MAX, 4, 3, 1}};
        int[][] told = {{2, 1, 1, 0, 1, 0}, {1, 2, 2, 3, 3, 0}};
        Check.session(x, 300);
        for (int i = 0; i < 2; i++) {
            for (int what = 0; what < 6; what++) {
                Check.due("source " + i + ", " + what, x.entry(0, i, what), facts[i][what]);
                Check.due("result " + i + ", " + what, x.entry(2, i, what), told[i][what]);
            }
        }
        Check.restore(x, "now");
        Check.due("locked in the source, not in the result", x.entry(2, 1, 5), 0);
        Check.sentence("NONE if there is none such, or for another what, or tree.");
        for (int tree : new int[] {MIN, -1, 1, 3, 4, MAX}) {
            for (int what = -1; what < 7; what++) {
                Check.due("tree " + tree, x.entry(tree, 0, what), -1);
            }
        }
        for (int tree : new int[] {0, 2}) {
            for (int i : new int[] {MIN, -1, 2, 3, 39, 40, 41, MAX}) {
                for (int what = -1; what < 7; what++) {
                    Check.due("tree " + tree + ", entry " + i, x.entry(tree, i, what), -1);
                }
            }
            for (int what : new int[] {MIN, -1, 6, 7, MAX}) {
                Check.due("tree " + tree + ", what " + what, x.entry(tree, 0, what), -1);
            }
        }
    }

    private static void bytes() {
        Check.sentence("Byte k (0 .. 255) of the content, or with path of the path, of a tree's i-th entry. NONE if there is none such.");
        Works x = new Works();
        Check.make(x, "\u00ff", 2, 0, 0);
        Check.make(x, "\u00ff/\u0080\001\177", 1, 0, 0);
        Check.write(x, "\u00ff\0\u0080\177", 0);
        Check.session(x, 1);
        Check.restore(x, "now");
        int[] path = {255, '/', 128, 1, 127};
        int[] content = {255, 0, 128, 127};
        for (int tree : new int[] {0, 2}) {
            for (int k = 0; k < 5; k++) {
                Check.due("path " + k, x.at(tree, 1, true, k), path[k]);
            }
            for (int k = 0; k < 4; k++) {
                Check.due("content " + k, x.at(tree, 1, false, k), content[k]);
            }
            for (int k : new int[] {MIN, -1, 5, 6, 98, 1200, MAX}) {
                Check.due("path " + k, x.at(tree, 1, true, k), -1);
                Check.due("content " + k, x.at(tree, 1, false, k), -1);
            }
            Check.due("behind the content", x.at(tree, 1, false, 4), -1);
            Check.due("a DIRECTORY's path", x.at(tree, 0, true, 0), 255);
            Check.due("behind a DIRECTORY's path", x.at(tree, 0, true, 1), -1);
            Check.due("a DIRECTORY's content", x.at(tree, 0, false, 0), -1);
            for (int i : new int[] {MIN, -1, 2, 39, 40, MAX}) {
                Check.due("path of entry " + i, x.at(tree, i, true, 0), -1);
                Check.due("content of entry " + i, x.at(tree, i, false, 0), -1);
            }
        }
        for (int tree : new int[] {MIN, -1, 1, 3, MAX}) {
            Check.due("path of tree " + tree, x.at(tree, 0, true, 0), -1);
            Check.due("content of tree " + tree, x.at(tree, 1, false, 0), -1);
        }
        x.cut(1);
        Check.due("no byte behind a cut", x.at(0, 1, false, 1), -1);
        x.cut(0);
        Check.due("no byte of no content", x.at(0, 1, false, 0), -1);
        Check.due("still in the result", x.at(2, 1, false, 3), 127);
    }

    private static byte[] digest(byte[] bytes) {
        try {
            return MessageDigest.getInstance("SHA-256").digest(bytes);
        } catch (NoSuchAlgorithmException e) {
            throw new AssertionError(e);
        }
    }

    /** Contents round the ends of SHA-256's blocks, and the longest ones. */
    private static void sums() {
        Check.sentence("Word k (0 .. 7) of the sum of the content of the result's i-th entry: SHA-256, the highest bits first, four bytes a"
                + " word.");
        for (int length : new int[] {0, 1, 3, 4, 54, 55, 56, 57, 62, 63, 64, 65, 118, 119, 120, 121, 127, 128, 129, 400, 1199, 1200}) {
            Works x = new Works();
            Check.zeroFile(x, "f", 1, length);
            String first = "\u00ff\u0080ab".substring(0, Math.min(4, length));
            Check.write(x, first, 0);
            Check.make(x, "l", 3, 0, 0);
            Check.write(x, first, 0);
            Check.session(x, 1);
            Check.restore(x, "now");
            byte[] bytes = Arrays.copyOf(first.getBytes(StandardCharsets.ISO_8859_1), length);
            byte[] due = digest(bytes);
            byte[] ofLink = digest(first.getBytes(StandardCharsets.ISO_8859_1));
            for (int k = 0; k < 8; k++) {
                Check.due("of " + length + ", word " + k, x.sum(0, k), Check.word(due, 4 * k));
                Check.due("of a link, word " + k, x.sum(1, k), Check.word(ofLink, 4 * k));
            }
        }
        Check.sentence("0 if there is none such, or it is a DIRECTORY.");
        Works x = at(0);
        Check.due("there is one", x.sum(1, 0), 0xba7816bf);
        for (int k : new int[] {MIN, -1, 8, 9, MAX}) {
            Check.due("word " + k, x.sum(1, k), 0);
        }
        for (int k = 0; k < 8; k++) {
            Check.due("a DIRECTORY, word " + k, x.sum(0, k), 0);
            for (int i : new int[] {MIN, -1, 2, 39, 40, MAX}) {
                Check.due("entry " + i + ", word " + k, x.sum(i, k), 0);
            }
            Check.due("no result, word " + k, new Works().sum(0, k), 0);
        }
    }

    private static void about() {
        Check.sentence("STATE (what = 0), how many sessions have C/S (1), OPERATIONS done of what is UNDER WAY, PRUNES or RECOVERS (2; 0 else),"
                + " entries of source and result (3, 4), bytes of the source's content (5), bytes on the tape (6), OPERATIONS of the disk in"
                + " all (7; those that were lost, too).");
        int[][] due = {{0, 2, 0, 2, 2, 4, 0, 28}, {1, 2, 1, 2, 2, 4, 0, 29}, {2, 1, 1, 2, 2, 4, 0, 29}, {3, 2, 0, 2, 2, 4, 0, 29},
            {4, 2, 1, 2, 2, 4, 0, 30}};
        for (int state = 0; state <= 4; state++) {
            Works x = at(state);
            for (int what = 0; what < 8; what++) {
                Check.due("about(" + what + ") in state " + state, x.about(what), due[state][what]);
            }
        }
        Works x = at(1);
        Check.zeros(x, 400);
        Check.due("a full tape", x.about(6), 400);
        x.step(3);
        Check.due("done", x.about(2), 4);
        x.crash(0);
        Check.due("nothing is done of what broke off", x.about(2), 0);
        Check.due("what was lost counts", x.about(7), 32);
        x.recover();
        Check.due("none of the recovery yet", x.about(2), 0);
        x.step(1);
        Check.due("one of it", x.about(2), 1);
        x.crash(0);
        Check.due("in all, with that", x.about(7), 33);
        Check.sentence("NONE for another what.");
        for (int what : new int[] {MIN, -1, 8, 9, MAX}) {
            Check.due("about(" + what + ")", x.about(what), -1);
        }
    }

    private static void disk() {
        Check.sentence("How many files of a sort the disk has as it is: M (sort = 0), U (1), I (2), T (3), B (4), C (5), X (6). NONE for"
                + " another sort.");
        Works x = new Works();
        Check.file(x, "a", "a");
        Check.session(x, 1);
        Check.write(x, "b", 0);
        x.begin(2);
        x.step(6);
        Check.due("as it is", Check.disk(x), "0 1 2 1 1 1 1");
        x.crash(1);
        Check.due("as it is then", Check.disk(x), "0 1 2 1 1 1 0");
        for (int sort : new int[] {MIN, -1, 7, 8, MAX}) {
            Check.due("sort " + sort, x.disk(sort), -1);
        }
    }

    private static void session() {
        Check.sentence("Of session i of those that have C/S (0 the oldest one), told of when it was committed: its time (what = 0), entries (1),"
                + " content changes (2), entries that the one before it had not (3; all, of the first one), that it had otherwise (4; KIND,"
                + " MODE, TIME or content), that went (5), bytes of content (6), ERRORS (7).");
        Works x = new Works();
        Check.session(x, 0);
        Check.due("an empty one", Check.facts(x, 0), "0 0 0 0 0 0 0 0");
        String[] paths = {"content", "d", "kind", "locked", "mode", "same", "time", "went"};
        for (String path : paths) {
            Check.make(x, path, path.equals("d") ? 2 : 1, 1, 1);
        }
        Check.write(x, "went", 0);
        Check.session(x, 10);
        Check.due("the first with entries", Check.facts(x, 1), "10 8 7 8 0 0 4 0");
        x.remove();
        Check.choose(x, "content");
        Check.write(x, "c", 0);
        Check.choose(x, "kind");
        x.remove();
        Check.make(x, "kind", 3, 1, 1);
        Check.choose(x, "locked");
        Check.write(x, "locked", 0);
        x.set(2, 2, true);
        Check.choose(x, "mode");
        x.set(2, 1, false);
        Check.choose(x, "time");
        x.set(1, 2, false);
        Check.make(x, "new", 2, 1, 1);
        Check.session(x, MAX);
        Check.due("the third", Check.facts(x, 2), "2147483647 8 2 1 4 1 1 1");
        Check.prune(x, "now");
        x.step(2);
        Check.due("told of when it was committed", Check.facts(x, 0), "2147483647 8 2 1 4 1 1 1");
        Check.due("the others are forgotten", x.session(1, 0), -1);
        x.crash(0);
        Check.due("they are back", Check.facts(x, 1), "10 8 7 8 0 0 4 0");
        Check.sentence("NONE if there is none such, or for another what.");
        for (int i : new int[] {MIN, -1, 3, 4, 29, 30, MAX}) {
            for (int what = -1; what < 9; what++) {
                Check.due("session " + i, x.session(i, what), -1);
            }
        }
        for (int what : new int[] {MIN, -1, 8, 9, MAX}) {
            Check.due("what " + what, x.session(0, what), -1);
        }
        Works y = at(0);
        y.begin(300);
        y.step(4);
        Check.due("not yet committed", y.session(2, 0), -1);
        y.step(1);
        Check.due("committed", y.session(2, 0), 300);
        y.crash(0);
        Check.due("that was lost", y.session(2, 0), -1);
        Works z = full();
        Check.due("the 30th", z.session(29, 0), 29);
        Check.due("no 31st", z.session(30, 0), -1);
    }

    public static void main(String[] args) {
        begins();
        beginsNot();
        prunes();
        recovers();
        steps();
        stepsNot();
        crashes();
        restores();
        entry();
        bytes();
        sums();
        about();
        disk();
        session();
        Check.close();
    }
}
