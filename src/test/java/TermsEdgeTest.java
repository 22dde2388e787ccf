import java.util.Objects;

/** The edges that the document names ahead of promise 1: names, paths, trees and sessions. */
public final class TermsEdgeTest {
    private static final String NAME_24 = "0123456789abcdefghijklmn";
    private static final int MAX = Integer.MAX_VALUE;
    private static final int MIN = Integer.MIN_VALUE;

    private TermsEdgeTest() {
    }

    /** The answers up to an object's last call are the due ones. */
    private static void calls() {
        Check.sentence("An object is used for at most 512 calls after it has been made; what later calls answer is free.");
        MirrorWorks x = new MirrorWorks();
        for (int i = 0; i < 511; i++) {
            int due = i % 22 == 21 ? 0 : 20 * (i % 22);
            if (i % 22 == 0) {
                x.feed(-1, i, i, i, i);
            } else if (i % 22 == 21) {
                Check.due("call " + i, x.choose(), -1);
            } else {
                Check.due("call " + i, x.end(20), due);
            }
        }
        Check.due("call 512", x.about(6), 20 * (510 % 22));
        Works y = new Works();
        Check.file(y, "f", "abc");
        for (int time = 0; y.changeCount() + 14 < Works.MOST_CALLS; time += 10) {
            Check.due("a session", Check.command(y, "backup " + time), 0);
            Check.due("all others forgotten", Check.command(y, "prune now"), 0);
            Check.due("read", Check.restore(y, "now"), 1);
        }
        Check.due("one is left", y.about(1), 1);
        Check.due("right at the end", Check.verify(y, "0s"), 0);
        Check.due("as it was", Check.tree(y, 2), "f 1 420 7 [abc];");
    }

    private static void names() {
        Check.sentence("NAMES: 1 to 24 bytes, none of them 0 or 47 (/), not . or .. alone.");
        Works x = new Works();
        Check.make(x, "d", 2, 0, 0);
        Check.make(x, "d/e", 2, 0, 0);
        String[] good = {"a", NAME_24, "...", "....", ".a", "a.", "..a", "a..", ". ", " ", ".\001", "%", "\u00ff", "A.B"};
        int count = 2;
        for (String name : good) {
            Check.due("[" + name + "]", Check.make(x, name, 1, 0, 0), ++count);
            Check.due("[d/" + name + "]", Check.make(x, "d/" + name, 1, 0, 0), ++count);
        }
        Works y = new Works();
        Check.make(y, "d", 2, 0, 0);
        Check.make(y, "d/e", 2, 0, 0);
        String[] bad = {"", NAME_24 + "o", "\0", "a\0", "\0a", "a\0b", ".", ".."};
        for (String name : bad) {
            for (String path : new String[] {name, "d/" + name, name + "/a", "d/" + name + "/a", "d/e/" + name}) {
                Check.tape(y, path);
                Check.due("[" + path + "]", Check.of(() -> y.make(1, 0, 0)), Check.ARGUMENT);
            }
        }
        Check.due("nothing came", y.about(3), 2);
        for (int b = 0; b < 256; b++) {
            Works z = new Works();
            boolean none = b == 0 || b == '/' || b == '.';
            Check.due("a byte " + b, Check.make(z, String.valueOf((char) b), 2, 0, 0), none ? Check.ARGUMENT : 1);
            Check.due("a last byte " + b, Check.make(z, "a" + (char) b, 2, 0, 0),
                    b == 0 || b == '/' ? Check.ARGUMENT : none ? 1 : 2);
        }
    }

    private static void paths() {
        Check.sentence("PATHS: 1 to 4 names with / between.");
        Works x = new Works();
        String path = "";
        for (int names = 1; names <= 4; names++) {
            path += (names == 1 ? "" : "/") + NAME_24;
            Check.due(names + " names", Check.make(x, path, 2, 0, 0), names);
        }
        Check.due("the longest path", x.entry(0, 3, 4), 99);
        String longest = path;
        for (String none : new String[] {longest + "/a", longest + "a", longest + "/", "a/b/c/d/e", "", "/", "//", "/a",
            NAME_24 + "/", NAME_24 + "//a", "/" + NAME_24, "a".repeat(400), "a/".repeat(200)}) {
            Check.tape(x, none);
            Check.refusedAndTaken("[" + none + "]", x, () -> x.make(1, 0, 0), Check.ARGUMENT);
        }
    }

    private static void order() {
        Check.sentence("ORDER of paths: name by name, byte by byte (0 .. 255); what is at an end first.");
        String[] order = {"\001", ".a", "a", "a/\001", "a/b", "a/b/\377", "a/b/\377/z", "a/b\001", "a/bb", "a/c", "a\001", "a.",
            "a0", "aa", "aa/a", "ab", "b", "b/a", "\177", "\200", "\200\001", "\377"};
        Works forth = new Works();
        Works back = new Works();
        for (String path : order) {
            Check.make(forth, path, 2, 0, 0);
        }
        for (int names = 1; names <= 4; names++) {
            for (int i = order.length - 1; i >= 0; i--) {
                if (order[i].split("/").length == names) {
                    Check.make(back, order[i], 2, 0, 0);
                }
            }
        }
        Check.session(back, 1);
        Check.restore(back, "now");
        for (int i = 0; i < order.length; i++) {
            Check.due("made forth " + i, Check.bytes(forth, 0, i, true), order[i]);
            Check.due("made back " + i, Check.bytes(back, 0, i, true), order[i]);
            Check.due("in a result " + i, Check.bytes(back, 2, i, true), order[i]);
        }
    }

    private static void entries() {
        Check.sentence("A TREE has at most 40 ENTRIES, each with a path of its own");
        Works x = new Works();
        Check.make(x, "d", 2, 0, 0);
        for (int i = 2; i <= 40; i++) {
            Check.due("entry " + i, Check.make(x, "d/" + i, 1 + i % 3, 0, 0), i);
        }
        Check.tape(x, "e");
        Check.refusedAndTaken("entry 41", x, () -> x.make(1, 0, 0), Check.STATE);
        Check.tape(x, "d/7");
        Check.refusedAndTaken("a path that is there", x, () -> x.make(3, 0, 0), Check.STATE);
        Check.due("a session of 40", x.begin(1), 7 + 6 * 26);
        Check.finish(x);
        Check.due("a result of 40", Check.restore(x, "now"), 40);
        Check.due("the same", Check.tree(x, 2), Check.tree(x, 0));
        Check.choose(x, "d/40");
        x.remove();
        Check.due("room for one again", Check.make(x, "e", 1, 0, 0), 40);
        Check.due("and no more", Check.make(x, "f", 1, 0, 0), Check.STATE);
        Check.choose(x, "d");
        Check.due("all but one go", x.remove(), 39);
        Check.due("room for many", Check.make(x, "d", 1, 0, 0), 2);
    }

    private static void kindModeTime() {
        Check.sentence("a KIND (1 FILE, 2 DIRECTORY, 3 LINK), a MODE 0 .. 4095, a TIME 0 and above");
        int[] kinds = {MIN, -1, 0, 4, 5, MAX};
        int[] modes = {MIN, -1, 4096, MAX};
        int[] times = {MIN, -1};
        Works x = new Works();
        for (int kind = 1; kind <= 3; kind++) {
            Check.due("kind " + kind, Check.make(x, "k" + kind, kind, kind == 2 ? 4095 : 0, kind == 2 ? MAX : 0), kind);
        }
        Check.due("they are", Check.tree(x, 0), "k1 1 0 0 [];k2 2 4095 2147483647 [];k3 3 0 0 [];");
        for (int kind : kinds) {
            Check.tape(x, "a");
            Check.refusedAndTaken("kind " + kind, x, () -> x.make(kind, 0, 0), Check.ARGUMENT);
        }
        for (int mode : modes) {
            Check.tape(x, "a");
            Check.refusedAndTaken("mode " + mode, x, () -> x.make(1, mode, 0), Check.ARGUMENT);
            Check.refused("set to mode " + mode, x, () -> set(x, mode, 0, false), Check.ARGUMENT);
        }
        for (int time : times) {
            Check.tape(x, "a");
            Check.refusedAndTaken("time " + time, x, () -> x.make(1, 0, time), Check.ARGUMENT);
            Check.refused("set to time " + time, x, () -> set(x, 0, time, false), Check.ARGUMENT);
        }
        x.set(4095, MAX, false);
        Check.due("the most", x.entry(0, 2, 1) + " " + x.entry(0, 2, 2), "4095 2147483647");
        x.set(0, 0, false);
        Check.due("the least", x.entry(0, 2, 1) + " " + x.entry(0, 2, 2), "0 0");
    }

    private static int set(Works x, int mode, int time, boolean locked) {
        x.set(mode, time, locked);
        return 0;
    }

    private static void contentOfOne() {
        Check.sentence("and, but for a DIRECTORY, CONTENT: bytes, of a FILE at most 1200, of a LINK at most 100");
        Works x = new Works();
        Check.zeroFile(x, "f", 1, 1199);
        Check.due("1200", Check.write(x, "z", 1199), 1200);
        Check.tape(x, "z");
        Check.refusedAndTaken("1201", x, () -> x.write(1200), Check.STATE);
        Check.due("nothing at 1200", Check.write(x, "", 1200), 1200);
        Check.zeros(x, 400);
        Check.refusedAndTaken("400 at 801", x, () -> x.write(801), Check.STATE);
        Check.zeros(x, 400);
        Check.due("400 at 800", x.write(800), 1200);
        Works y = new Works();
        Check.zeroFile(y, "l", 3, 99);
        Check.due("100", Check.write(y, "z", 99), 100);
        Check.tape(y, "z");
        Check.refusedAndTaken("101", y, () -> y.write(100), Check.STATE);
        Check.due("nothing at 100", Check.write(y, "", 100), 100);
        Check.tape(y, "zz");
        Check.refusedAndTaken("two at 99", y, () -> y.write(99), Check.STATE);
        Check.due("all of it", Check.write(y, "y".repeat(100), 0), 100);
        y.cut(0);
        Check.tape(y, "z".repeat(101));
        Check.refusedAndTaken("101 at once", y, () -> y.write(0), Check.STATE);
        Check.make(y, "d", 2, 0, 0);
        Check.refusedAndTaken("none of a DIRECTORY", y, () -> y.write(0), Check.STATE);
        Check.due("its length", y.entry(0, 0, 3), 0);
    }

    private static void contentOfAll() {
        Check.sentence("all together at most 4000 (in THE SOURCE;");
        Works x = new Works();
        for (int i = 0; i < 3; i++) {
            Check.zeroFile(x, "f" + i, 1, 1200);
        }
        Check.zeroFile(x, "l", 3, 100);
        Check.zeroFile(x, "g", 1, 299);
        Check.due("3999", x.about(5), 3999);
        Check.tape(x, "zz");
        Check.refusedAndTaken("4001", x, () -> x.write(299), Check.STATE);
        Check.due("4000", Check.write(x, "z", 299), 300);
        Check.due("it is full", x.about(5), 4000);
        Check.tape(x, "z");
        Check.refusedAndTaken("one more", x, () -> x.write(300), Check.STATE);
        Check.due("none more", Check.write(x, "", 300), 300);
        Check.due("within", Check.write(x, "zz", 298), 300);
        Check.make(x, "h", 3, 0, 0);
        Check.tape(x, "z");
        Check.refusedAndTaken("of another", x, () -> x.write(0), Check.STATE);
        Check.choose(x, "l");
        x.cut(98);
        Check.choose(x, "h");
        Check.tape(x, "zzz");
        Check.refusedAndTaken("three, and there is room for two", x, () -> x.write(0), Check.STATE);
        Check.due("two", Check.write(x, "zz", 0), 2);
        Check.choose(x, "f1");
        x.remove();
        Check.due("1200 went", x.about(5), 2800);
        Check.choose(x, "g");
        Check.due("room again", Check.write(x, "zz", 300), 302);
    }

    private static void lockedContent() {
        Check.sentence("a session's TREE may have up to 3600 more, by LOCKED FILES as they were before).");
        Works x = new Works();
        for (int i = 0; i < 3; i++) {
            Check.zeroFile(x, "f" + i, 1, 1200);
        }
        Check.due("a session", x.begin(1), 7 + 3 * 6);
        x.step(400);
        for (int i = 0; i < 3; i++) {
            Check.choose(x, "f" + i);
            x.cut(0);
            x.set(0, 0, true);
        }
        for (int i = 0; i < 3; i++) {
            Check.zeroFile(x, "g" + i, 1, 1200);
        }
        Check.zeroFile(x, "h", 1, 400);
        Check.due("the source is full", x.about(5), 4000);
        Check.due("the session", x.begin(2), 7 + 4 * 6);
        Check.due("whole", x.step(400), 31);
        Check.due("its facts", Check.facts(x, 1), "2 7 4 4 0 0 7600 3");
        Check.due("its bytes", Check.command(x, "restore now"), 0);
        Check.due("its output", Check.output(x), "entries 7\nbytes 7600\n");
        Check.due("its sums", Check.verify(x, "now"), 0);
        for (int i = 0; i < 7; i++) {
            Check.due("how long " + i, x.entry(2, i, 3), i < 6 ? 1200 : 400);
        }
    }

    private static void directories() {
        Check.sentence("In THE SOURCE each entry of a path of several names has a DIRECTORY with the path of all names but the last");
        Works x = new Works();
        Check.make(x, "d", 2, 0, 0);
        Check.make(x, "f", 1, 0, 0);
        Check.make(x, "l", 3, 0, 0);
        for (String path : new String[] {"e/a", "f/a", "l/a", "d/e/a", "d/d/d/d", "dd/a", "D/a"}) {
            Check.tape(x, path);
            Check.refusedAndTaken(path, x, () -> x.make(1, 0, 0), Check.STATE);
        }
        Check.due("d/e", Check.make(x, "d/e", 2, 0, 0), 4);
        Check.due("d/e/a", Check.make(x, "d/e/a", 1, 0, 0), 5);
        Check.tape(x, "d/e/a/a");
        Check.refusedAndTaken("below a file", x, () -> x.make(1, 0, 0), Check.STATE);
        Check.choose(x, "d");
        Check.due("none stays without", x.remove(), 3);
        Check.tape(x, "d/e/a");
        Check.refusedAndTaken("no more", x, () -> x.make(1, 0, 0), Check.STATE);
    }

    private static void locks() {
        Check.sentence("at most 3 of its FILEs may be LOCKED (what comes anew is not).");
        Works x = new Works();
        Check.make(x, "d", 2, 0, 0);
        String[] paths = {"d/0", "d/1", "f2", "f3", "f4"};
        for (int i = 0; i < 5; i++) {
            Check.make(x, paths[i], 1, 0, 0);
            if (i < 3) {
                x.set(0, 0, true);
            }
        }
        Check.due("three", Check.locked(x), "011100");
        Check.refused("a fourth", x, () -> set(x, 1, 1, true), Check.STATE);
        Check.choose(x, "f2");
        x.set(1, 1, true);
        Check.due("one of the three again", Check.locked(x), "011100");
        x.set(1, 1, false);
        Check.choose(x, "f4");
        x.set(0, 0, true);
        Check.due("another one", Check.locked(x), "011001");
        x.remove();
        Check.make(x, "f4", 1, 0, 0);
        Check.due("what comes anew", Check.locked(x), "011000");
        x.set(0, 0, true);
        Check.choose(x, "f3");
        Check.refused("a fourth again", x, () -> set(x, 1, 1, true), Check.STATE);
        Check.choose(x, "d");
        x.remove();
        Check.choose(x, "f2");
        x.set(0, 0, true);
        Check.choose(x, "f3");
        x.set(0, 0, true);
        Check.due("two went with their directory", Check.locked(x), "111");
        Check.make(x, "d", 2, 0, 0);
        Check.make(x, "d/0", 1, 0, 0);
        Check.make(x, "d/1", 1, 0, 0);
        Check.due("they come anew", Check.locked(x), "000111");
        Check.refused("and a fourth", x, () -> set(x, 1, 1, true), Check.STATE);
        everyThree();
    }

    /** Whichever three of five are locked, a fourth is refused, and is not when one of the three went. */
    private static void everyThree() {
        for (int set = 0; set < 32; set++) {
            if (Integer.bitCount(set) != 3) {
                continue;
            }
            Works x = new Works();
            for (int i = 0; i < 5; i++) {
                Check.make(x, String.valueOf((char) ('a' + i)), 1, 0, 0);
                x.set(0, 0, (set >> i & 1) == 1);
            }
            for (int i = 0; i < 5; i++) {
                Works y = x.twin();
                Check.choose(y, String.valueOf((char) ('a' + i)));
                if ((set >> i & 1) == 0) {
                    Check.refused("a fourth beside " + set, y, () -> set(y, 1, 1, true), Check.STATE);
                    continue;
                }
                y.set(1, 1, true);
                y.remove();
                String other = String.valueOf((char) ('a' + Integer.numberOfTrailingZeros(~set)));
                Works z = y.twin();
                Check.choose(z, other);
                Check.due("another one beside two of " + set, Check.of(() -> z.set(0, 0, true)), 0);
                Check.make(y, "f", 1, 0, 0);
                y.set(0, 0, true);
                Check.due("one that comes anew beside two of " + set, y.entry(0, 4, 5), 1);
                Check.choose(y, other);
                Check.refused("a fourth again beside " + set, y, () -> set(y, 1, 1, true), Check.STATE);
            }
        }
    }

    private static void sessions() {
        Check.sentence("SESSIONS, at most 30, have rising times");
        Works x = new Works();
        for (int i = 0; i < 29; i++) {
            Check.session(x, 2 * i);
        }
        x.begin(58);
        x.step(4);
        x.crash(0);
        Check.due("the 30th is undone", Check.command(x, "check"), 0);
        Check.due("29", x.about(1), 29);
        Check.refused("not above", x, () -> x.begin(56), Check.ARGUMENT);
        Check.session(x, 57);
        Check.due("30", x.about(1), 30);
        Check.refused("31", x, () -> x.begin(58), Check.STATE);
        for (int i = 0; i < 30; i++) {
            Check.due("time " + i, x.session(i, 0), i < 29 ? 2 * i : 57);
        }
        Check.due("no 31st", x.session(30, 0), -1);
        Check.due("29 are forgotten", Check.command(x, "prune now"), 0);
        for (int i = 0; i < 29; i++) {
            Check.session(x, 58 + i);
        }
        Check.due("30 again", x.about(1), 30);
        Check.refused("31 again", x, () -> x.begin(MAX), Check.STATE);
        Check.prune(x, "1B");
        Check.finish(x);
        Check.session(x, MAX);
        Check.refused("nothing is above that", x, () -> x.begin(MAX), Check.ARGUMENT);
    }

    private static void lockedFiles() {
        Check.sentence("but that a LOCKED FILE is in it what the entry of its path was in the session before (MODE, TIME and"
                + " content), and is not in it if there was none, or no FILE (each LOCKED FILE is an ERROR).");
        Works x = new Works();
        Check.file(x, "a", "one");
        x.set(1, 1, true);
        Check.make(x, "b", 2, 0, 0);
        Check.make(x, "c", 3, 0, 0);
        Check.write(x, "one", 0);
        Check.due("no session before", x.begin(1), 7 + 6);
        Check.finish(x);
        session(x, 0, "1 2 1 2 0 0 3 1", "b 2 0 0 [];c 3 0 0 [one];");
        Check.due("none in the one before", x.begin(2), 7);
        Check.finish(x);
        session(x, 1, "2 2 0 0 0 0 3 1", "b 2 0 0 [];c 3 0 0 [one];");
        for (String path : new String[] {"b", "c"}) {
            Check.choose(x, path);
            x.remove();
            Check.file(x, path, "one");
            x.set(9, 9, true);
        }
        Check.due("no FILE in the one before", x.begin(3), 7 + 5);
        Check.finish(x);
        session(x, 2, "3 0 1 0 0 2 0 3", "");
        for (String path : new String[] {"a", "b", "c"}) {
            Check.choose(x, path);
            x.set(2, 2, false);
        }
        Check.session(x, 4);
        session(x, 3, "4 3 3 3 0 0 9 0", "a 1 2 2 [one];b 1 2 2 [one];c 1 2 2 [one];");
        Check.choose(x, "a");
        Check.write(x, "two", 0);
        x.set(3, 3, true);
        Check.choose(x, "b");
        x.remove();
        Check.make(x, "b", 1, 4, 4);
        x.set(5, 5, true);
        Check.due("a FILE in the one before", x.begin(5), 7);
        Check.finish(x);
        session(x, 4, "5 3 0 0 0 0 9 2", "a 1 2 2 [one];b 1 2 2 [one];c 1 2 2 [one];");
        Check.session(x, 6);
        session(x, 5, "6 3 0 0 0 0 9 2", "a 1 2 2 [one];b 1 2 2 [one];c 1 2 2 [one];");
        x.remove();
        Check.session(x, 7);
        session(x, 6, "7 2 1 0 0 1 6 1", "a 1 2 2 [one];c 1 2 2 [one];");
        Check.choose(x, "a");
        x.set(3, 3, false);
        Check.session(x, 8);
        session(x, 7, "8 2 1 0 1 0 6 0", "a 1 3 3 [two];c 1 2 2 [one];");
    }

    private static void session(Works x, int i, String facts, String tree) {
        Check.due("facts of session " + i, Check.facts(x, i), facts);
        Check.due("sums of session " + i, Check.verify(x, "0B"), 0);
        Check.due("tree of session " + i, Check.tree(x, 2), tree);
    }

    /** From each sort of entry at a path to each other, or to none. */
    private static void contentChanges() {
        Check.sentence("CONTENT CHANGES of a session: paths with content (of FILEs and LINKs, also of no bytes) in its TREE"
                + " or in that of the one before, but such as have the same bytes in both (whatever the KINDs).");
        int[] kinds = {0, 2, 1, 1, 1, 1, 3, 3, 3};
        String[] contents = {null, null, "", "a", "b", "aa", "", "a", "aa"};
        for (int from = 0; from < kinds.length; from++) {
            for (int to = 0; to < kinds.length; to++) {
                String what = kinds[from] + " [" + contents[from] + "] to " + kinds[to] + " [" + contents[to] + "]";
                Works x = new Works();
                put(x, kinds[from], contents[from]);
                Check.session(x, 1);
                if (kinds[from] != 0) {
                    x.remove();
                }
                put(x, kinds[to], contents[to]);
                boolean changes = !Objects.equals(contents[from], contents[to]);
                int operations = 3 + (contents[from] == null ? 0 : 2) + (contents[to] == null ? 0 : 3);
                Check.due(what, x.begin(2), 7 + (changes ? operations : 0));
                Check.finish(x);
                Check.due(what + ", changes", x.session(1, 2), changes ? 1 : 0);
                Check.due(what + ", new", x.session(1, 3), kinds[from] == 0 && kinds[to] != 0 ? 1 : 0);
                boolean other = changes || kinds[from] != kinds[to];
                Check.due(what + ", other", x.session(1, 4), kinds[from] != 0 && kinds[to] != 0 && other ? 1 : 0);
                Check.due(what + ", gone", x.session(1, 5), kinds[from] != 0 && kinds[to] == 0 ? 1 : 0);
                Check.due(what + ", mirror", x.disk(0), contents[to] == null ? 0 : 1);
                for (int i = 0; i < 2; i++) {
                    int at = i == 0 ? from : to;
                    Check.due(what + ", sums", Check.verify(x, String.valueOf(i + 1)), 0);
                    String tree = "p " + kinds[at] + " 0 0 [" + Objects.toString(contents[at], "") + "];";
                    Check.due(what + ", tree " + i, Check.tree(x, 2), kinds[at] == 0 ? "" : tree);
                }
            }
        }
    }

    private static void put(Works x, int kind, String content) {
        if (kind != 0) {
            Check.make(x, "p", kind, 0, 0);
        }
        if (content != null) {
            Check.write(x, content, 0);
        }
    }

    public static void main(String[] args) {
        calls();
        names();
        paths();
        order();
        entries();
        kindModeTime();
        contentOfOne();
        contentOfAll();
        lockedContent();
        directories();
        locks();
        sessions();
        lockedFiles();
        contentChanges();
        Check.close();
    }
}
