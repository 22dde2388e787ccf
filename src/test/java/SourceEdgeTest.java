/** The edges that promises 1 to 9 name: a new object, the tape and the source. */
public final class SourceEdgeTest {
    private static final int MAX = Integer.MAX_VALUE;
    private static final int MIN = Integer.MIN_VALUE;
    private static final int[] NOT_UNDER_WAY = {0, 2, 3, 4};

    private SourceEdgeTest() {
    }

    /** A directory d, a file d/f with abc, a link l with xyz, in a state; the file is chosen. */
    private static Works at(int state) {
        Works x = new Works();
        Check.make(x, "d", 2, 1, 1);
        Check.make(x, "l", 3, 3, 3);
        Check.write(x, "xyz", 0);
        Check.make(x, "d/f", 1, 2, 2);
        Check.write(x, "abc", 0);
        Check.session(x, 1);
        if (state == 1) {
            x.begin(2);
        } else if (state > 1) {
            Check.prune(x, "now");
        }
        if (state > 2) {
            x.crash(0);
        }
        if (state == 4) {
            x.recover();
        }
        Check.due("state", x.about(0), state);
        return x;
    }

    private static int cut(Works x, int length) {
        x.cut(length);
        return 0;
    }

    private static int set(Works x, int mode, int time, boolean locked) {
        x.set(mode, time, locked);
        return 0;
    }

    private static void aNewObject() {
        Check.sentence("All trees are empty, the disk too, nothing on the tape, nothing is chosen.");
        Works x = new Works();
        for (int what = 0; what < 8; what++) {
            Check.due("about(" + what + ")", x.about(what), 0);
        }
        Check.due("disk", Check.disk(x), "0 0 0 0 0 0 0");
        for (int what = 0; what < 6; what++) {
            Check.due("no entry of the source", x.entry(0, 0, what), -1);
            Check.due("no entry of the result", x.entry(2, 0, what), -1);
        }
        for (boolean path : new boolean[] {false, true}) {
            Check.due("no byte of the source", x.at(0, 0, path, 0), -1);
            Check.due("no byte of the result", x.at(2, 0, path, 0), -1);
        }
        Check.due("no sum", x.sum(0, 0), 0);
        Check.due("no session", x.session(0, 0), -1);
        Check.due("no output", x.output(), 0);
        Check.due("nothing is chosen", Check.chosen(x), "");
        Check.due("no path on the tape", x.twin().choose(), -1);
        Check.due("no command on the tape", x.twin().command(), 1);
        Check.due("nothing to do", Check.of(() -> x.step(0)), Check.STATE);
        Check.due("not broken", Check.of(x::recover), Check.STATE);
        Works y = new Works();
        y.begin(0);
        Check.finish(y);
        Check.due("an empty tree is restored", Check.restore(y, "now"), 0);
    }

    private static String fed(int a, int b, int c, int d, int e) {
        Works x = new Works();
        Check.make(x, "f", 1, 0, 0);
        x.feed(1, 1, 1, 1, 1);
        x.feed(a, b, c, d, e);
        x.end(20);
        x.write(0);
        return Check.bytes(x, 0, 0, false);
    }

    private static void feed() {
        Check.sentence("Puts twenty bytes ready, those of a first, the highest of each first.");
        Check.due("twenty", fed(0x01020304, 0x05060708, 0x090a0b0c, 0x0d0e0f10, 0x11121314),
                "\001\002\003\004\005\006\007\010\011\012\013\014\015\016\017\020\021\022\023\024");
        Check.due("the least and the most", fed(MIN, MAX, -1, 0, 0x80000001),
                "\200\0\0\0\177\377\377\377\377\377\377\377\0\0\0\0\200\0\0\001");
        Check.due("every bit of a byte", fed(0x7f80ff00, 0x00ff807f, -2, 255, 0xff00),
                "\177\200\377\0\0\377\200\177\377\377\377\376\0\0\0\377\0\0\377\0");
        Check.sentence("(They are 0 at first, and behind each end() that answers a number.)");
        Works x = new Works();
        Check.make(x, "f", 1, 0, 0);
        Works y = new Works();
        Check.due("at first", y.end(20), 20);
        Check.due("a 0 is no name", Check.of(() -> y.make(1, 0, 0)), Check.ARGUMENT);
        x.feed(-1, -1, -1, -1, -1);
        x.end(1);
        x.end(20);
        x.write(0);
        Check.due("behind end(1)", Check.bytes(x, 0, 0, false), "\377" + "\0".repeat(20));
        x.cut(0);
        x.feed(-1, -1, -1, -1, -1);
        x.end(0);
        x.end(20);
        x.write(0);
        Check.due("behind end(0)", Check.bytes(x, 0, 0, false), "\0".repeat(20));
        x.cut(0);
        x.feed(-1, -1, -1, -1, -1);
        x.end(21);
        x.end(-1);
        x.end(20);
        x.write(0);
        Check.due("not behind NONE", Check.bytes(x, 0, 0, false), "\377".repeat(20));
        x.cut(0);
        Check.zeros(x, 399);
        x.feed(0x61626364, 0, 0, 0, 0);
        x.end(2);
        x.end(1);
        x.write(0);
        Check.due("not behind NONE by a full tape", x.at(0, 0, false, 399), 'a');
    }

    private static void end() {
        Check.sentence("The first n of the bytes that are ready come to the tape: how many it has.");
        for (int n = 0; n <= 20; n++) {
            Works x = new Works();
            Check.make(x, "f", 1, 0, 0);
            x.feed(0x61626364, 0x65666768, 0x696a6b6c, 0x6d6e6f70, 0x71727374);
            Check.due("end(" + n + ")", x.end(n), n);
            Check.due("about", x.about(6), n);
            Check.due("written", x.write(0), n);
            Check.due("the first " + n, Check.bytes(x, 0, 0, false), "abcdefghijklmnopqrst".substring(0, n));
        }
        Check.sentence("NONE, and nothing comes, if n is not 0 .. 20, or it would have more than 400.");
        Works x = new Works();
        Check.tape(x, "abc");
        for (int n : new int[] {MIN, -20, -1, 21, 22, 400, 401, MAX}) {
            Check.refusedAndKept("end(" + n + ")", x, () -> x.end(n), -1);
        }
        Check.zeros(x, 378);
        Check.refusedAndKept("401", x, () -> x.end(20), -1);
        Check.due("400", x.end(19), 400);
        for (int n : new int[] {MIN, -1, 1, 2, 20, 21, MAX}) {
            Check.refusedAndKept("full, end(" + n + ")", x, () -> x.end(n), -1);
        }
        Check.due("none to a full tape", x.end(0), 400);
        Check.due("taken", x.choose(), -1);
        Check.due("empty", x.end(0), 0);
        Check.due("again", x.end(20), 20);
    }

    private static void makes() {
        Check.sentence("An entry of the path that is on the tape (which is empty then) comes to the source, without content, and is CHOSEN:"
                + " how many entries there are.");
        for (int state : NOT_UNDER_WAY) {
            Works x = at(state);
            Check.due("in state " + state, Check.make(x, "e", 1, 4, 5), 4);
            Check.due("the tape", x.about(6), 0);
            Check.due("chosen", Check.chosen(x), "e");
            Check.due("the source", Check.tree(x, 0), "d 2 1 1 [];d/f 1 2 2 [abc];e 1 4 5 [];l 3 3 3 [xyz];");
            Check.due("state stays", x.about(0), state);
            x.remove();
            Check.choose(x, "d/f");
            x.remove();
            Check.due("anew", Check.make(x, "d/f", 3, 6, 7), 3);
            Check.due("without content", Check.tree(x, 0), "d 2 1 1 [];d/f 3 6 7 [];l 3 3 3 [xyz];");
        }
        Check.sentence("IllegalArgumentException: kind, mode or time is none, or that is no path.");
        Works x = at(0);
        int[][] none = {{0, 0, 0}, {4, 0, 0}, {-1, 0, 0}, {MAX, 0, 0}, {MIN, 0, 0}, {1, -1, 0}, {1, 4096, 0}, {1, MAX, 0}, {1, MIN, 0},
            {1, 0, -1}, {1, 0, MIN}, {0, -1, -1}};
        for (int[] n : none) {
            Check.tape(x, "e");
            Check.refusedAndTaken("make(" + n[0] + ", " + n[1] + ", " + n[2] + ")", x, () -> x.make(n[0], n[1], n[2]), Check.ARGUMENT);
        }
        for (String path : new String[] {"", "/", "/e", "e/", "d//e", ".", "..", "d/.", "d/..", "e\0", "0123456789abcdefghijklmno",
            "d/e/e/e/e", "d/0123456789abcdefghijklmno"}) {
            Check.tape(x, path);
            Check.refusedAndTaken("make of [" + path + "]", x, () -> x.make(1, 0, 0), Check.ARGUMENT);
        }
    }

    private static void makesNot() {
        Check.sentence("IllegalStateException: a session is UNDER WAY (this first, the tape stays; the others behind"
                + " IllegalArgumentException); it is there; its directory is not, or is none; there are 40.");
        Works x = at(1);
        Check.refusedAndKept("under way, an empty tape", x, () -> x.make(1, 0, 0), Check.STATE);
        Check.tape(x, "e");
        Check.refusedAndKept("under way", x, () -> x.make(1, 0, 0), Check.STATE);
        Check.refusedAndKept("under way, ahead of the others", x, () -> x.make(0, -1, -1), Check.STATE);
        Check.tape(x, "/");
        Check.refusedAndKept("under way, no path", x, () -> x.make(1, 0, 0), Check.STATE);
        Check.tape(x, "e");
        Check.finish(x);
        Check.due("what stayed on the tape is no path with a directory", Check.of(() -> x.make(1, 0, 0)), Check.STATE);
        Works y = at(0);
        for (String path : new String[] {"d", "d/f", "l"}) {
            Check.tape(y, path);
            Check.refusedAndTaken(path + " is there", y, () -> y.make(2, 0, 0), Check.STATE);
            Check.tape(y, path);
            Check.refusedAndTaken(path + " is there, and no kind", y, () -> y.make(0, 0, 0), Check.ARGUMENT);
        }
        for (String path : new String[] {"e/f", "d/e/f", "d/f/e", "l/e", "D/f", "dd/f"}) {
            Check.tape(y, path);
            Check.refusedAndTaken(path + " has no directory", y, () -> y.make(1, 0, 0), Check.STATE);
            Check.tape(y, path);
            Check.refusedAndTaken(path + " has no directory, and no mode", y, () -> y.make(1, 4096, 0), Check.ARGUMENT);
        }
        Works z = new Works();
        for (int i = 1; i <= 40; i++) {
            Check.due("entry " + i, Check.make(z, "f" + i, 1, 0, 0), i);
        }
        Check.tape(z, "g");
        Check.refusedAndTaken("there are 40", z, () -> z.make(1, 0, 0), Check.STATE);
        Check.tape(z, "g");
        Check.refusedAndTaken("there are 40, and no time", z, () -> z.make(1, 0, -1), Check.ARGUMENT);
        Check.tape(z, ".");
        Check.refusedAndTaken("there are 40, and no path", z, () -> z.make(1, 0, 0), Check.ARGUMENT);
    }

    private static void choose() {
        Check.sentence("The source's entry of the path that is on the tape (which is empty then) is CHOSEN: its KIND; NONE, and nothing is"
                + " chosen then, if there is none.");
        for (int state = 0; state <= 4; state++) {
            Works x = at(state);
            String[] paths = {"d", "d/f", "l"};
            int[] kinds = {2, 1, 3};
            for (int i = 0; i < 3; i++) {
                Check.due(paths[i] + " in state " + state, Check.choose(x, paths[i]), kinds[i]);
                Check.due("the tape", x.about(6), 0);
                Check.due("chosen", Check.chosen(x), paths[i]);
            }
            for (String none : new String[] {"", "e", "D", "d/", "/d", "d/g", "d/f/", "d\0", "d\0f", "d//f", "l\0", ".", "dd", "L",
                "a".repeat(400)}) {
                Check.choose(x, "d/f");
                Check.due("[" + none + "]", Check.choose(x, none), -1);
                Check.due("[" + none + "], the tape", x.about(6), 0);
                Check.due("[" + none + "], nothing is chosen", Check.chosen(x), "");
            }
        }
        Works x = at(0);
        Check.make(x, "a", 1, 0, 0);
        Check.choose(x, "l");
        Check.make(x, "b", 1, 0, 0);
        Check.choose(x, "d/f");
        x.remove();
        Check.due("what went is none", Check.choose(x, "d/f"), -1);
        Check.due("the others are there", Check.choose(x, "l"), 3);
    }

    private static void writes() {
        Check.sentence("The bytes on the tape (which is empty then) are written into the CHOSEN entry's content, from a place on, and it is as"
                + " long as it was, or longer if that is necessary: its length.");
        for (int state : NOT_UNDER_WAY) {
            Works x = at(state);
            String[] bytes = {"", "", "A", "C", "d", "BCDE", "x"};
            int[] places = {0, 3, 0, 2, 3, 1, 5};
            String[] due = {"abc", "abc", "Abc", "AbC", "AbCd", "ABCDE", "ABCDEx"};
            for (int i = 0; i < bytes.length; i++) {
                Check.due("[" + bytes[i] + "] at " + places[i], Check.write(x, bytes[i], places[i]), due[i].length());
                Check.due("the content", Check.bytes(x, 0, 1, false), due[i]);
                Check.due("the tape", x.about(6), 0);
            }
            Check.due("the others stay", Check.bytes(x, 0, 2, false), "xyz");
            Check.due("all", x.about(5), 9);
            Check.due("mode and time stay", x.entry(0, 1, 1) + x.entry(0, 1, 2), 4);
        }
        Works x = new Works();
        Check.make(x, "f", 1, 0, 0);
        Check.due("no bytes to no bytes", x.write(0), 0);
        StringBuilder all = new StringBuilder();
        for (int i = 0; i < 256; i++) {
            all.append((char) i);
        }
        Check.due("all bytes", Check.write(x, all.toString(), 0), 256);
        Check.due("as they are", Check.bytes(x, 0, 0, false), all.toString());
        Check.due("400 at once", Check.write(x, "z".repeat(400), 256), 656);
        Check.sentence("IllegalArgumentException: at is not 0 .. its length.");
        Works y = at(0);
        for (int place : new int[] {MIN, -400, -3, -1, 4, 5, 1000}) {
            for (String bytes : new String[] {"", "a", "abcd"}) {
                Check.tape(y, bytes);
                Check.refusedAndTaken("[" + bytes + "] at " + place, y, () -> y.write(place), Check.ARGUMENT);
            }
        }
    }

    private static void writesNot() {
        Check.sentence("IllegalStateException: a session is UNDER WAY (the tape stays then, with others not), nothing is chosen, or a"
                + " DIRECTORY is; it would be too long (its place and the tape's bytes together), or all would be. (These ahead of the"
                + " first.)");
        Works x = at(1);
        Check.tape(x, "z");
        for (int place : new int[] {0, 3, 4, -1, MAX, MIN}) {
            Check.refusedAndKept("under way, at " + place, x, () -> x.write(place), Check.STATE);
        }
        Check.finish(x);
        Check.due("what stayed on the tape", x.write(3), 4);
        Works y = at(0);
        Check.choose(y, "none");
        for (int place : new int[] {0, -1, 1, MAX, MIN}) {
            Check.tape(y, "z");
            Check.refusedAndTaken("nothing is chosen, at " + place, y, () -> y.write(place), Check.STATE);
        }
        Check.refusedAndTaken("nothing is chosen, no bytes", y, () -> y.write(0), Check.STATE);
        Check.choose(y, "d");
        for (int place : new int[] {0, -1, 1, MAX, MIN}) {
            Check.tape(y, "z");
            Check.refusedAndTaken("a DIRECTORY, at " + place, y, () -> y.write(place), Check.STATE);
        }
        Check.refusedAndTaken("a DIRECTORY, no bytes", y, () -> y.write(0), Check.STATE);
        tooLong("d/f", 1200);
        tooLong("l", 100);
        allTooLong();
    }

    private static void tooLong(String path, int most) {
        Works x = at(0);
        Check.choose(x, path);
        for (int place : new int[] {most, most + 1, 4000, MAX - 1, MAX}) {
            Check.tape(x, "z");
            Check.refusedAndTaken(path + " one at " + place, x, () -> x.write(place), Check.STATE);
        }
        for (int place : new int[] {most + 1, 4001, MAX}) {
            Check.refusedAndTaken(path + " none at " + place, x, () -> x.write(place), Check.STATE);
        }
        for (int place : new int[] {4, most - 1}) {
            Check.tape(x, "z");
            Check.refusedAndTaken(path + " one at " + place, x, () -> x.write(place), Check.ARGUMENT);
        }
        Check.refusedAndTaken(path + " none at " + most, x, () -> x.write(most), Check.ARGUMENT);
        Check.tape(x, "z".repeat(21));
        Check.refusedAndTaken(path + " far below", x, () -> x.write(-20), Check.ARGUMENT);
    }

    private static void allTooLong() {
        Works x = new Works();
        for (int i = 0; i < 3; i++) {
            Check.zeroFile(x, "f" + i, 1, 1200);
        }
        Check.zeroFile(x, "g", 1, 390);
        Check.make(x, "l", 3, 0, 0);
        Check.tape(x, "z".repeat(11));
        Check.refusedAndTaken("4001", x, () -> x.write(0), Check.STATE);
        Check.tape(x, "z".repeat(10));
        Check.refusedAndTaken("4001 and no place", x, () -> x.write(1), Check.STATE);
        Check.tape(x, "z".repeat(9));
        Check.refusedAndTaken("4000 and no place", x, () -> x.write(1), Check.ARGUMENT);
        Check.tape(x, "z".repeat(11));
        Check.refusedAndTaken("4000 and below 0", x, () -> x.write(-1), Check.ARGUMENT);
        Check.due("4000", Check.write(x, "z".repeat(10), 0), 10);
        Check.refusedAndTaken("none behind its end", x, () -> x.write(11), Check.STATE);
        Check.tape(x, "z");
        Check.refusedAndTaken("one at its end", x, () -> x.write(10), Check.STATE);
        Check.due("one within", Check.write(x, "y", 9), 10);
    }

    private static void cut() {
        Check.sentence("The CHOSEN entry's content is cut to a length. IllegalArgumentException: not 0 .. its length.");
        for (int state : NOT_UNDER_WAY) {
            Works x = at(state);
            Check.tape(x, "z");
            for (int length : new int[] {MIN, -1, 4, 5, MAX}) {
                Check.refusedAndKept("cut(" + length + ") in state " + state, x, () -> cut(x, length), Check.ARGUMENT);
            }
            for (int length : new int[] {3, 2, 1, 0, 0}) {
                x.cut(length);
                Check.due("cut(" + length + ")", Check.bytes(x, 0, 1, false), "abc".substring(0, length));
                Check.due("all", x.about(5), 3 + length);
                Check.refusedAndKept("no longer", x, () -> cut(x, length + 1), Check.ARGUMENT);
            }
            Check.due("then it grows anew", x.write(0), 1);
            Check.due("with what is written", Check.bytes(x, 0, 1, false), "z");
            Check.choose(x, "l");
            x.cut(1);
            Check.due("a link", Check.bytes(x, 0, 2, false), "x");
        }
        Check.sentence("IllegalStateException: a session is UNDER WAY, nothing is chosen, or a DIRECTORY is. (This first.)");
        Works x = at(1);
        Works y = at(0);
        Works z = at(0);
        Check.choose(y, "none");
        Check.choose(z, "d");
        for (int length : new int[] {0, 3, 4, -1, MIN, MAX}) {
            Check.refused("under way, cut(" + length + ")", x, () -> cut(x, length), Check.STATE);
            Check.refused("nothing is chosen, cut(" + length + ")", y, () -> cut(y, length), Check.STATE);
            Check.refused("a DIRECTORY, cut(" + length + ")", z, () -> cut(z, length), Check.STATE);
        }
        Check.choose(x, "none");
        Check.refused("under way, and nothing is chosen", x, () -> cut(x, 0), Check.STATE);
    }

    private static void set() {
        Check.sentence("The CHOSEN entry's MODE and TIME, and, of a FILE, whether it is LOCKED. IllegalArgumentException: one of these is none"
                + " (locked, and no FILE).");
        for (int state : NOT_UNDER_WAY) {
            Works x = at(state);
            Check.tape(x, "z");
            x.set(4095, MAX, true);
            Check.due("set", Check.tree(x, 0), "d 2 1 1 [];d/f 1 4095 2147483647 [abc];l 3 3 3 [xyz];");
            Check.due("locked", Check.locked(x), "010");
            x.set(0, 0, false);
            Check.due("set again", Check.tree(x, 0), "d 2 1 1 [];d/f 1 0 0 [abc];l 3 3 3 [xyz];");
            Check.due("not locked", Check.locked(x), "000");
            Check.due("the tape stays", x.about(6), 1);
        }
        for (String path : new String[] {"d", "d/f", "l"}) {
            Works x = at(0);
            Check.choose(x, path);
            int[][] none = {{-1, 0}, {4096, 0}, {MIN, 0}, {MAX, 0}, {0, -1}, {0, MIN}, {4096, -1}};
            for (int[] n : none) {
                for (boolean locked : new boolean[] {false, true}) {
                    Check.refused(path + " set(" + n[0] + ", " + n[1] + ", " + locked + ")", x, () -> set(x, n[0], n[1], locked),
                            Check.ARGUMENT);
                }
            }
            if (!path.equals("d/f")) {
                Check.refused("locked " + path, x, () -> set(x, 0, 0, true), Check.ARGUMENT);
            }
            x.set(9, 8, false);
            Check.due("set " + path, Check.chosen(x), path);
        }
    }

    private static void setNot() {
        Check.sentence("IllegalStateException: a session is UNDER WAY, or nothing is chosen (these two ahead of IllegalArgumentException);"
                + " locked, and three others are LOCKED (this last).");
        Works x = at(1);
        Works y = at(0);
        Check.choose(y, "none");
        int[][] all = {{0, 0}, {-1, 0}, {4096, -1}};
        for (int[] n : all) {
            for (boolean locked : new boolean[] {false, true}) {
                Check.refused("under way", x, () -> set(x, n[0], n[1], locked), Check.STATE);
                Check.refused("nothing is chosen", y, () -> set(y, n[0], n[1], locked), Check.STATE);
            }
        }
        Works z = at(0);
        for (int i = 0; i < 3; i++) {
            Check.choose(z, "none");
            Check.make(z, "f" + i, 1, 0, 0);
            z.set(0, 0, true);
        }
        z.set(1, 1, true);
        Check.due("two others", Check.locked(z), "001110");
        Check.choose(z, "d/f");
        Check.refused("three others", z, () -> set(z, 5, 5, true), Check.STATE);
        Check.refused("three others, last", z, () -> set(z, -1, 5, true), Check.ARGUMENT);
        Check.refused("three others, last again", z, () -> set(z, 5, -1, true), Check.ARGUMENT);
        z.set(5, 5, false);
        Check.due("not locked", z.entry(0, 1, 1), 5);
        Check.choose(z, "l");
        Check.refused("three others, and no FILE", z, () -> set(z, 5, 5, true), Check.ARGUMENT);
        Check.choose(z, "f1");
        z.set(0, 0, false);
        Check.choose(z, "d/f");
        z.set(5, 5, true);
        Check.due("two others again", Check.locked(z), "011010");
    }

    private static void remove() {
        Check.sentence("The CHOSEN entry, LOCKED or not, goes from the source, and all whose paths begin with its path and /: how many went"
                + " (nothing is chosen then).");
        for (int state : NOT_UNDER_WAY) {
            Works x = at(state);
            Check.make(x, "d/e", 2, 0, 0);
            Check.file(x, "d/e/x", "x");
            x.set(420, 7, true);
            Check.make(x, "d/ex", 1, 0, 0);
            Check.make(x, "d/e.", 1, 0, 0);
            Check.make(x, "d.", 1, 0, 0);
            Check.make(x, "dd", 2, 0, 0);
            Check.make(x, "dd/e", 1, 0, 0);
            Check.tape(x, "z");
            Works y = x.twin();
            Check.due("one", x.remove(), 1);
            Check.due("nothing is chosen", Check.chosen(x), "");
            Check.due("the tape stays", x.about(6), 1);
            x.choose();
            Check.choose(x, "d/e/x");
            Works z = x.twin();
            Check.due("a LOCKED one", z.remove(), 1);
            Check.choose(x, "d/e");
            Check.due("with what is below", x.remove(), 2);
            Check.due("nothing is chosen then", Check.chosen(x), "");
            Check.due("the others", Check.tree(x, 0), "d 2 1 1 [];d/e. 1 0 0 [];d/ex 1 0 0 [];d/f 1 2 2 [abc];d. 1 0 0 [];dd 2 0 0 [];"
                    + "l 3 3 3 [xyz];");
            Check.due("locked", Check.locked(x), "0000000");
            y.choose();
            Check.choose(y, "d");
            Check.due("all of d", y.remove(), 6);
            Check.due("the others then", Check.tree(y, 0), "d. 1 0 0 [];dd 2 0 0 [];dd/e 1 0 0 [];l 3 3 3 [xyz];");
            Check.due("bytes", y.about(5), 3);
        }
        Works last = new Works();
        Check.make(last, "f", 1, 0, 0);
        Check.due("the last one", last.remove(), 1);
        Check.due("none is left", last.about(3), 0);
        Check.sentence("IllegalStateException: a session is UNDER WAY, or nothing is chosen.");
        Check.refused("nothing is chosen", last, last::remove, Check.STATE);
        Works x = at(1);
        Check.refused("under way", x, x::remove, Check.STATE);
        Check.choose(x, "none");
        Check.refused("under way, and nothing is chosen", x, x::remove, Check.STATE);
        Works y = at(0);
        Check.choose(y, "none");
        Check.refused("nothing is chosen by choose", y, y::remove, Check.STATE);
    }

    public static void main(String[] args) {
        aNewObject();
        feed();
        end();
        makes();
        makesNot();
        choose();
        writes();
        writesNot();
        cut();
        set();
        setNot();
        remove();
        Check.close();
    }
}
