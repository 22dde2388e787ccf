import java.util.ArrayList;
import java.util.Arrays;
import java.util.List;
import java.util.function.Supplier;

/**
 * The edges of the disk's operations, as the document writes them out ahead of promise 1. Operations
 * are written so: +I a file of sort I comes (WRITE), -I one goes (DELETE), M>U one is renamed, U>M!
 * one is renamed to a name that another one has, S is a SYNC.
 */
public final class OperationsEdgeTest {
    private static final String SORTS = "MUITBCX";
    private static final String FIRST = "a 1 420 7 [aa];b 1 420 7 [bb];c 1 420 7 [cc];";
    private static final String SECOND = "a 1 420 7 [aa];b 1 420 7 [bB];e 1 420 7 [];";
    private static final String OF_SECOND = "+B S +I S M>U +X S X>M S +I S M>U S +I S +X S X>M S +T S B>C S -U -U S";

    private OperationsEdgeTest() {
    }

    /** The session of time 100 is done; behind it b becomes other, c goes and e comes. */
    private static Works two() {
        Works x = new Works();
        Check.file(x, "a", "aa");
        Check.file(x, "b", "bb");
        Check.file(x, "c", "cc");
        Check.session(x, 100);
        Check.choose(x, "b");
        Check.write(x, "B", 1);
        Check.choose(x, "c");
        x.remove();
        Check.file(x, "e", "");
        return x;
    }

    /** Sessions 100, 200, 300 and 400, with 3, 3, 1 and 1 content changes. */
    private static Works four() {
        Works x = two();
        Check.session(x, 200);
        Check.choose(x, "a");
        x.cut(0);
        Check.session(x, 300);
        x.remove();
        Check.session(x, 400);
        return x;
    }

    private static Works underWay(Works x, int time, int done) {
        x.begin(time);
        x.step(done);
        return x;
    }

    private static Works recovering(Works x, int kept) {
        x.crash(kept);
        x.recover();
        return x;
    }

    private static Works pruning(Works x, String words) {
        Check.prune(x, words);
        return x;
    }

    private static void apply(int[] counts, String operation) {
        if (operation.charAt(0) == '+') {
            counts[SORTS.indexOf(operation.charAt(1))]++;
        } else if (operation.charAt(0) == '-') {
            counts[SORTS.indexOf(operation.charAt(1))]--;
        } else if (operation.length() > 1) {
            counts[SORTS.indexOf(operation.charAt(0))]--;
            counts[SORTS.indexOf(operation.charAt(2))] += operation.endsWith("!") ? 0 : 1;
        }
    }

    private static String written(int[] counts) {
        return Arrays.toString(counts).replaceAll("[\\[\\],]", "");
    }

    /** What the disk has ahead of each operation, and behind the last one. */
    private static List<String> disks(Works opened, String[] operations) {
        int[] counts = new int[7];
        for (int sort = 0; sort < 7; sort++) {
            counts[sort] = opened.disk(sort);
        }
        List<String> disks = new ArrayList<>();
        disks.add(written(counts));
        for (String operation : operations) {
            apply(counts, operation);
            disks.add(written(counts));
        }
        return disks;
    }

    /** Something that has just been opened does these operations and no other. */
    private static void does(String what, Supplier<Works> opened, String written) {
        Works x = opened.get();
        String[] operations = written.split(" ");
        List<String> disks = disks(x, operations);
        int before = x.about(7);
        int state = x.about(0);
        for (int i = 0; i < operations.length; i++) {
            Check.due(what + ", done ahead of " + i, x.about(2), i);
            Check.due(what + ", state ahead of " + i, x.about(0), state);
            Check.due(what + ", operation " + i, x.step(1), 1);
            Check.due(what + ", behind " + i + " " + operations[i], Check.disk(x), disks.get(i + 1));
        }
        Check.due(what + ", at rest", x.about(0), 0);
        Check.due(what + ", done at rest", x.about(2), 0);
        Check.due(what + ", in all", x.about(7), before + operations.length);
    }

    /** It breaks off behind each operation, with each number of those that stay. */
    private static void breaksOff(String what, Supplier<Works> opened, String written, String... trees) {
        String[] operations = written.split(" ");
        List<String> disks = disks(opened.get(), operations);
        int synced = 0;
        for (int done = 0; done < operations.length; done++) {
            synced = done > 0 && operations[done - 1].equals("S") ? done : synced;
            for (int n = 0; n <= done - synced + 2; n++) {
                int told = n == done - synced + 2 ? Integer.MAX_VALUE : n;
                String at = what + ", " + done + " done, crash(" + told + ")";
                Works x = opened.get();
                int before = x.about(7);
                x.step(done);
                int kept = Math.min(n, done - synced);
                Check.due(at, x.crash(told), kept);
                Check.due(at + ", disk", Check.disk(x), disks.get(synced + kept));
                Check.due(at + ", state", x.about(0), 3);
                Check.due(at + ", done", x.about(2), 0);
                Check.due(at + ", in all", x.about(7), before + done);
                isWhole(at, x, trees);
            }
        }
    }

    /** Recovered, the sessions that are there have these trees, of which the last ones may be missing. */
    private static void isWhole(String at, Works x, String... trees) {
        Check.due(at + ", recovers", Check.command(x, "check"), 0);
        int sessions = x.about(1);
        Check.due(at + ", U B X", x.disk(1) + x.disk(4) + x.disk(6), 0);
        Check.due(at + ", T", x.disk(3), sessions);
        for (int i = 0; i < sessions; i++) {
            int time = x.session(i, 0);
            Check.due(at + ", sums", Check.verify(x, String.valueOf(time)), 0);
            Check.due(at + ", tree of " + time, Check.tree(x, 2), trees[time / 100 - 1]);
        }
    }

    private static void syncs() {
        Check.sentence("DELETE, SYNC: what was done ahead of it stays whatever happens.");
        String[] operations = OF_SECOND.split(" ");
        List<String> disks = disks(two(), operations);
        for (int done = 1; done < operations.length; done++) {
            if (operations[done - 1].equals("S")) {
                Works x = underWay(two(), 200, done);
                Check.due("behind " + done, x.crash(0), 0);
                Check.due("disk behind " + done, Check.disk(x), disks.get(done));
                x.recover();
                Check.due("again behind " + done, x.crash(9), 0);
                Check.due("disk again behind " + done, Check.disk(x), disks.get(done));
            }
        }
    }

    private static void renames() {
        Check.sentence("RENAME (what has the new name goes)");
        Works x = underWay(two(), 200, 9);
        Check.due("b is there as M and as U", Check.disk(x), "3 1 4 1 1 1 0");
        recovering(x, 0);
        x.step(1);
        Check.due("the M that was there is gone", Check.disk(x), "3 0 4 1 1 1 0");
        Check.due("taken back", x.crash(0), 0);
        Check.due("both are there again", Check.disk(x), "3 1 4 1 1 1 0");
        Check.due("recovered", Check.command(x, "check"), 0);
        Check.due("right", Check.verify(x, "now"), 0);
        Check.due("what was there ahead of the session", Check.tree(x, 2), FIRST);
    }

    private static void breakOffs() {
        Check.sentence("When the disk BREAKS OFF, of the operations behind the last SYNC the first ones, as many as is told,"
                + " have been done, the others not.");
        breaksOff("a session", () -> underWay(two(), 200, 0), OF_SECOND, FIRST, SECOND);
        String third = "a 1 420 7 [];b 1 420 7 [bB];e 1 420 7 [];";
        String fourth = "b 1 420 7 [bB];e 1 420 7 [];";
        breaksOff("pruning", () -> pruning(four(), "300"), "-C -C S -T -T -I -I -I -I -I -I -I S",
                FIRST, SECOND, third, fourth);
        breaksOff("pruning all but the latest", () -> pruning(four(), "now"), "-C -C -C S -T -T -T -I -I -I -I -I -I -I -I S",
                FIRST, SECOND, third, fourth);
        breaksOff("undoing", () -> recovering(underWay(two(), 200, 21), 0), "U>M! U>M -M S -I -I -I -T S -B S",
                FIRST, SECOND);
        breaksOff("finishing", () -> recovering(underWay(two(), 200, 23), 0), "-U -U -I -I -I S", FIRST, SECOND);
        breaksOff("the first session", () -> {
            Works x = new Works();
            Check.file(x, "a", "aa");
            Check.file(x, "b", "bb");
            Check.file(x, "c", "cc");
            return underWay(x, 100, 0);
        }, "+B S +I S +X S X>M S +I S +X S X>M S +I S +X S X>M S +T S B>C S S", FIRST);
    }

    private static void sessions() {
        Check.sentence("A SESSION S: WRITE B/S, SYNC; for each content change P, in order: WRITE I/S/P, SYNC; if there is M/P:"
                + " RENAME M/P to U/P; if P has content in S: WRITE X, SYNC, RENAME X to M/P; SYNC. Then WRITE T/S, SYNC, RENAME"
                + " B/S to C/S (COMMIT), SYNC; DELETE each U/P, in order, SYNC.");
        does("other, gone and new", () -> underWay(two(), 200, 0), OF_SECOND);
        does("no entry", () -> underWay(new Works(), 0, 0), "+B S +T S B>C S S");
        does("gone, then new", () -> goneAndNew("a", "b"), "+B S +I S M>U S +I S +X S X>M S +T S B>C S -U S");
        does("new, then gone", () -> goneAndNew("b", "a"), "+B S +I S +X S X>M S +I S M>U S +T S B>C S -U S");
        does("in order of paths", () -> goneAndNew("d.", "d/x"), "+B S +I S +X S X>M S +I S M>U S +T S B>C S -U S");
        does("again in order of paths", () -> goneAndNew("d/x", "d."), "+B S +I S M>U S +I S +X S X>M S +T S B>C S -U S");
    }

    private static Works goneAndNew(String gone, String comes) {
        Works x = new Works();
        Check.make(x, "d", 2, 0, 0);
        Check.file(x, gone, "g");
        Check.session(x, 1);
        x.remove();
        Check.file(x, comes, "c");
        return underWay(x, 2, 0);
    }

    private static void prunings() {
        Check.sentence("To PRUNE up to K (a session, which stays; a SYNC is done also if nothing was deleted)");
        does("nothing is deleted", () -> {
            Works x = new Works();
            Check.session(x, 5);
            return pruning(x, "5");
        }, "S S");
        does("K is the oldest", () -> pruning(four(), "100"), "S -I -I -I S");
        does("K is the oldest, again", () -> {
            Works x = pruning(four(), "100");
            Check.finish(x);
            return pruning(x, "3B");
        }, "S S");
        Works x = pruning(four(), "now");
        Check.finish(x);
        Check.due("K stays", Check.facts(x, 0), "400 2 1 0 0 1 2 0");
        Check.due("alone", x.about(1), 1);
        Check.due("with its tree", Check.verify(x, "now"), 0);
        Check.due("its tree", Check.tree(x, 2), "b 1 420 7 [bB];e 1 420 7 [];");
    }

    private static void pruningsInOrder() {
        Check.sentence("DELETE C/S of all S ahead of K, the oldest first, SYNC; DELETE T/S of these, the oldest first; DELETE"
                + " I/S/P of these and of K, the oldest first, paths in order, SYNC.");
        does("up to 300", () -> pruning(four(), "300"), "-C -C S -T -T -I -I -I -I -I -I -I S");
        does("up to the latest", () -> pruning(four(), "400"), "-C -C -C S -T -T -T -I -I -I -I -I -I -I -I S");
        for (int done = 0; done <= 3; done++) {
            Works x = pruning(four(), "now");
            x.step(done);
            Check.due("the oldest is " + (100 * done + 100), x.session(0, 0), 100 * done + 100);
            Check.due("the others are there", x.about(1), 4 - done);
        }
    }

    private static void undoings() {
        Check.sentence("To RECOVER: if there is a B/S: RENAME each U/P to M/P, in order; DELETE M/P for each I/S/P that says there"
                + " was nothing, if there is M/P, in order; SYNC; DELETE X, if it is there, each I/S/P, in order, T/S, if it is"
                + " there; SYNC; DELETE B/S.");
        int[] done = {2, 4, 5, 7, 8, 9, 13, 15, 17, 18, 19, 21, 22};
        int[] kept = {0, 0, 1, 0, 0, 0, 0, 0, 0, 1, 0, 0, 0};
        String[] due = {
            "S S -B S", "S -I S -B S", "U>M S -I S -B S", "U>M S -X -I S -B S", "U>M S -X -I S -B S", "U>M! S -I S -B S",
            "U>M! U>M S -I -I S -B S", "U>M! U>M S -I -I -I S -B S", "U>M! U>M S -X -I -I -I S -B S",
            "U>M! U>M -M S -I -I -I S -B S", "U>M! U>M -M S -I -I -I S -B S", "U>M! U>M -M S -I -I -I -T S -B S",
            "U>M! U>M -M S -I -I -I -T S -B S",
        };
        for (int i = 0; i < done.length; i++) {
            int at = i;
            Supplier<Works> broken = () -> recovering(underWay(two(), 200, done[at]), kept[at]);
            does("behind " + done[i] + ", " + kept[i], broken, due[i]);
            Works x = broken.get();
            Check.finish(x);
            isWhole("behind " + done[i], x, FIRST);
            Check.due("undone behind " + done[i], Check.disk(x), "3 0 3 1 0 1 0");
        }
        ofTheFirst();
        behindPruning();
    }

    /** Nothing but the session that broke off is on the disk. */
    private static void ofTheFirst() {
        int[] done = {2, 4, 6, 8, 16};
        String[] due = {"S S -B S", "S -I S -B S", "S -X -I S -B S", "-M S -I S -B S", "-M -M S -I -I -T S -B S"};
        for (int i = 0; i < done.length; i++) {
            int at = i;
            Supplier<Works> broken = () -> {
                Works x = new Works();
                Check.file(x, "a", "a");
                Check.file(x, "b", "");
                return recovering(underWay(x, 100, done[at]), 0);
            };
            does("of the first behind " + done[i], broken, due[i]);
            Works x = broken.get();
            Check.finish(x);
            Check.due("the first is undone behind " + done[i], Check.disk(x), "0 0 0 0 0 0 0");
            Check.session(x, 100);
            isWhole("again behind " + done[i], x, "a 1 420 7 [a];b 1 420 7 [];");
        }
    }

    /** All that led back was pruned ahead of the session that broke off. */
    private static void behindPruning() {
        Supplier<Works> broken = () -> {
            Works x = two();
            Check.command(x, "prune now");
            return recovering(underWay(x, 200, 19), 0);
        };
        does("behind pruning", broken, "U>M! U>M -M S -I -I -I S -B S");
        Works x = broken.get();
        Check.finish(x);
        isWhole("behind pruning", x, FIRST);
        Check.due("undone behind pruning", Check.disk(x), "3 0 0 1 0 1 0");
    }

    private static void finishings() {
        Check.sentence("Else: DELETE each U/P, in order, X if it is there, T/S of each S that has no C/S (the oldest first), I/S/P"
                + " of each S that is not above the oldest with C/S, or if there is none of all (the oldest first, paths in"
                + " order). Then, in both cases, SYNC.");
        does("an empty disk", () -> recovering(underWay(new Works(), 1, 1), 0), "S");
        does("B/S was lost", () -> recovering(underWay(two(), 200, 1), 0), "-I -I -I S");
        does("committed, not yet synced", () -> recovering(underWay(two(), 200, 22), 1), "-U -U -I -I -I S");
        does("committed", () -> recovering(underWay(two(), 200, 23), 0), "-U -U -I -I -I S");
        does("one U is left", () -> recovering(underWay(two(), 200, 25), 1), "-U -I -I -I S");
        does("no U is left", () -> recovering(underWay(two(), 200, 25), 2), "-I -I -I S");
        does("no C was deleted", () -> recovering(pruning(four(), "300"), 0), "-I -I -I S");
        does("one C was deleted", () -> {
            Works x = pruning(four(), "300");
            x.step(2);
            return recovering(x, 1);
        }, "-T -I -I -I -I -I -I S");
        does("both C were deleted", () -> {
            Works x = pruning(four(), "300");
            x.step(3);
            return recovering(x, 0);
        }, "-T -T -I -I -I -I -I -I -I S");
        does("the T, too, and one I", () -> {
            Works x = pruning(four(), "300");
            x.step(9);
            return recovering(x, 3);
        }, "-I -I -I -I -I -I S");
        does("all of it", () -> {
            Works x = pruning(four(), "300");
            x.step(12);
            return recovering(x, 9);
        }, "S");
    }

    private static void states() {
        Check.sentence("STATE: 0 AT REST, 1 a session is UNDER WAY, 2 it PRUNES, 3 BROKEN (the disk has broken off), 4 it RECOVERS.");
        Works x = two();
        Check.due("at rest", x.about(0), 0);
        x.begin(200);
        Check.due("under way", x.about(0), 1);
        x.step(25);
        Check.due("still under way", x.about(0), 1);
        x.step(1);
        Check.due("at rest again", x.about(0), 0);
        Check.prune(x, "now");
        Check.due("it prunes", x.about(0), 2);
        x.crash(0);
        Check.due("broken", x.about(0), 3);
        int count = x.recover();
        Check.due("it recovers", x.about(0), 4);
        x.step(count - 1);
        Check.due("it still recovers", x.about(0), 4);
        x.crash(0);
        Check.due("broken again", x.about(0), 3);
        x.recover();
        x.step(400);
        Check.due("at rest at last", x.about(0), 0);
    }

    public static void main(String[] args) {
        syncs();
        renames();
        breakOffs();
        sessions();
        prunings();
        pruningsInOrder();
        undoings();
        finishings();
        states();
        Check.close();
    }
}
