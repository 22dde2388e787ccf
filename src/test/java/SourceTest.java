/** Promises 1 to 9, 17 and 18: the tape and the source. */
public final class SourceTest {
    private static final String NAME_24 = "0123456789abcdefghijklmn";

    private SourceTest() {
    }

    private static void aNewObject() {
        Works x = new Works();
        for (int what = 0; what < 8; what++) {
            Check.due("1 about(" + what + ")", x.about(what), 0);
        }
        Check.due("1 disk", Check.disk(x), "0 0 0 0 0 0 0");
        Check.due("1 source", x.entry(0, 0, 0), -1);
        Check.due("1 result", x.entry(2, 0, 0), -1);
        Check.due("1 sum", x.sum(0, 0), 0);
        Check.due("1 session", x.session(0, 0), -1);
        Check.due("1 output", x.output(), 0);
        Check.due("1 chosen", Check.of(x::remove), Check.STATE);
        Check.due("1 now", Check.restore(x, "now"), Check.ARGUMENT);
    }

    private static void feed() {
        Works x = new Works();
        x.feed(0x61626364, 0x65666768, 0x696a6b6c, 0x6d6e6f70, 0x71727374);
        x.end(20);
        x.make(1, 0, 0);
        Check.due("2 twenty bytes", Check.bytes(x, 0, 0, true), "abcdefghijklmnopqrst");
        x.feed(0x7a000000, 0, 0, 0, 0);
        x.feed(0x80ff0102, -1, 0, 0, 0);
        x.end(5);
        x.write(0);
        Check.due("2 the latest ones", Check.bytes(x, 0, 0, false), "\u0080\u00ff\001\002\u00ff");
        x.end(2);
        x.write(0);
        Check.due("2 zeros behind end", Check.bytes(x, 0, 0, false), "\0\0\001\002\u00ff");
    }

    private static void end() {
        Works x = new Works();
        x.feed(0x61620000, 0, 0, 0, 0);
        Check.due("3 -1", x.end(-1), -1);
        Check.due("3 21", x.end(21), -1);
        Check.due("3 max", x.end(Integer.MAX_VALUE), -1);
        Check.due("3 min", x.end(Integer.MIN_VALUE), -1);
        Check.due("3 the bytes stay", x.end(1), 1);
        x.make(1, 0, 0);
        Check.due("3 the first", Check.bytes(x, 0, 0, true), "a");
        x.feed(0x61620000, 0, 0, 0, 0);
        Check.due("3 none of them", x.end(0), 0);
        Check.due("3 zeros then", x.end(1), 1);
        Check.due("3 zero is no name", Check.of(() -> x.make(1, 0, 0)), Check.ARGUMENT);
        for (int i = 1; i <= 20; i++) {
            Check.due("3 to 400", x.end(20), 20 * i);
        }
        Check.due("3 401", x.end(1), -1);
        Check.due("3 400 and none", x.end(0), 400);
        Check.due("3 about", x.about(6), 400);
    }

    private static void make() {
        Works x = new Works();
        Check.due("4 a directory", Check.make(x, "d", 2, 0, 0), 1);
        Check.due("4 a file", Check.make(x, "d/f", 1, 4095, Integer.MAX_VALUE), 2);
        Check.due("4 a link", Check.make(x, "d/" + NAME_24, 3, 1, 1), 3);
        Check.due("4 the tape", x.about(6), 0);
        Check.due("4 chosen", x.write(0), 0);
        Check.due("4 kind 0", Check.make(x, "k", 0, 0, 0), Check.ARGUMENT);
        Check.due("4 the tape is empty then", x.about(6), 0);
        Check.due("4 kind 4", Check.make(x, "k", 4, 0, 0), Check.ARGUMENT);
        Check.due("4 mode -1", Check.make(x, "k", 1, -1, 0), Check.ARGUMENT);
        Check.due("4 mode 4096", Check.make(x, "k", 1, 4096, 0), Check.ARGUMENT);
        Check.due("4 time -1", Check.make(x, "k", 1, 0, -1), Check.ARGUMENT);
        String[] wrong = {"", ".", "..", "/", "/a", "a/", "d//a", "d/.", "d/..", "./a", "a\0", "d\0f", NAME_24 + "o",
            "d/d/d/d/d"};
        for (String path : wrong) {
            Check.due("4 no path [" + path + "]", Check.make(x, path, 1, 0, 0), Check.ARGUMENT);
        }
        Check.due("4 no path ahead of it is there", Check.make(x, "d", 0, 0, 0), Check.ARGUMENT);
        Check.due("4 it is there", Check.make(x, "d", 1, 0, 0), Check.STATE);
        Check.due("4 the tape is empty then, too", x.about(6), 0);
        Check.due("4 no directory", Check.make(x, "e/f", 1, 0, 0), Check.STATE);
        Check.due("4 a file is none", Check.make(x, "d/f/g", 1, 0, 0), Check.STATE);
        Check.due("4 a link is none", Check.make(x, "d/" + NAME_24 + "/g", 1, 0, 0), Check.STATE);
        Check.due("4 the directory of all names but the last", Check.make(x, "d/d/d", 1, 0, 0), Check.STATE);
        Check.due("4 two", Check.make(x, "d/d", 2, 0, 0), 4);
        Check.due("4 three", Check.make(x, "d/d/d", 2, 0, 0), 5);
        Check.due("4 four", Check.make(x, "d/d/d/d", 2, 0, 0), 6);
        Check.due("4 three dots", Check.make(x, "...", 1, 0, 0), 7);
        Check.due("4 dots with more", Check.make(x, "..a", 1, 0, 0), 8);
        x.begin(1);
        Check.due("4 under way, first", Check.make(x, "", 9, -1, -1), Check.STATE);
        Check.tape(x, "zz");
        Check.due("4 under way", Check.of(() -> x.make(1, 0, 0)), Check.STATE);
        Check.due("4 the tape stays", x.about(6), 2);
        Check.finish(x);
        Check.due("4 then it is made", Check.of(() -> x.make(1, 0, 0)), 9);
        for (int i = 10; i <= 40; i++) {
            Check.due("4 up to 40", Check.make(x, "f" + i, 1, 0, 0), i);
        }
        Check.due("4 no 41", Check.make(x, "g", 1, 0, 0), Check.STATE);
        Check.due("4 no path ahead of 41", Check.make(x, ".", 1, 0, 0), Check.ARGUMENT);
        Check.due("4 entries", x.about(3), 40);
    }

    private static void choose() {
        Works x = new Works();
        Check.make(x, "d", 2, 0, 0);
        Check.make(x, "d/l", 3, 0, 0);
        Check.make(x, "d/f", 1, 0, 0);
        Check.due("5 a directory", Check.choose(x, "d"), 2);
        Check.due("5 a link", Check.choose(x, "d/l"), 3);
        Check.due("5 a file", Check.choose(x, "d/f"), 1);
        Check.due("5 it is chosen", Check.write(x, "abc", 0), 3);
        Check.due("5 its content", Check.bytes(x, 0, 1, false), "abc");
        Check.due("5 none", Check.choose(x, "f"), -1);
        Check.due("5 the tape", x.about(6), 0);
        Check.due("5 nothing is chosen then", Check.of(x::remove), Check.STATE);
        Check.due("5 a 0 is no /", Check.choose(x, "d\0f"), -1);
        Check.due("5 an empty tape", x.choose(), -1);
        x.begin(1);
        Check.due("5 under way", Check.choose(x, "d/f"), 1);
    }

    private static void write() {
        Works x = new Works();
        Check.due("6 nothing is chosen", Check.write(x, "a", 0), Check.STATE);
        Check.due("6 the tape is empty then", x.about(6), 0);
        Check.make(x, "d", 2, 0, 0);
        Check.due("6 a directory", Check.write(x, "a", 0), Check.STATE);
        Check.make(x, "f", 1, 0, 0);
        Check.due("6 first bytes", Check.write(x, "abc", 0), 3);
        Check.due("6 within", Check.write(x, "X", 1), 3);
        Check.due("6 over the end", Check.write(x, "YZ", 2), 4);
        Check.due("6 at the end", Check.write(x, "!", 4), 5);
        Check.due("6 content", Check.bytes(x, 0, 1, false), "aXYZ!");
        Check.due("6 behind the end", Check.write(x, "a", 6), Check.ARGUMENT);
        Check.due("6 the tape is empty then, too", x.about(6), 0);
        Check.due("6 below 0", Check.write(x, "a", -1), Check.ARGUMENT);
        Check.due("6 far below 0", Check.write(x, "a", Integer.MIN_VALUE), Check.ARGUMENT);
        Check.due("6 no bytes", Check.write(x, "", 2), 5);
        Check.due("6 1200 is not too long", Check.write(x, "a", 1199), Check.ARGUMENT);
        Check.due("6 too long, ahead of the place", Check.write(x, "a", 1200), Check.STATE);
        Check.due("6 too long by its place", Check.write(x, "", 1201), Check.STATE);
        Check.due("6 too long by far", Check.write(x, "abc", Integer.MAX_VALUE), Check.STATE);
        x.begin(1);
        Check.tape(x, "abc");
        Check.due("6 under way", Check.of(() -> x.write(0)), Check.STATE);
        Check.due("6 the tape stays", x.about(6), 3);
        Check.finish(x);
        Check.due("6 then it is written", Check.of(() -> x.write(5)), 8);
        limits();
    }

    private static void limits() {
        Works x = new Works();
        Check.make(x, "l", 3, 0, 0);
        Check.due("6 a link of 100", Check.write(x, "l".repeat(100), 0), 100);
        Check.due("6 of 101", Check.write(x, "l", 100), Check.STATE);
        for (int i = 0; i < 3; i++) {
            Check.make(x, "f" + i, 1, 0, 0);
            for (int k = 0; k < 3; k++) {
                Check.due("6 a file", Check.write(x, "f".repeat(400), 400 * k), 400 * k + 400);
            }
            Check.due("6 of 1201", Check.write(x, "f", 1200), Check.STATE);
        }
        Check.make(x, "g", 1, 0, 0);
        Check.due("6 4000 in all", Check.write(x, "g".repeat(300), 0), 300);
        Check.due("6 bytes", x.about(5), 4000);
        Check.due("6 4001 in all", Check.write(x, "gg", 299), Check.STATE);
        Check.due("6 4001 in all, ahead of the place", Check.write(x, "", 301), Check.STATE);
        Check.due("6 within all", Check.write(x, "g".repeat(200), 100), 300);
        x.cut(299);
        Check.due("6 all again", Check.write(x, "g", 299), 300);
    }

    private static void cut() {
        Works x = new Works();
        Check.due("7 nothing is chosen", Check.of(() -> x.cut(0)), Check.STATE);
        Check.make(x, "d", 2, 0, 0);
        Check.due("7 a directory", Check.of(() -> x.cut(0)), Check.STATE);
        Check.due("7 a directory, first", Check.of(() -> x.cut(-1)), Check.STATE);
        Check.file(x, "f", "abcd");
        Check.tape(x, "zz");
        Check.due("7 longer", Check.of(() -> x.cut(5)), Check.ARGUMENT);
        Check.due("7 below 0", Check.of(() -> x.cut(-1)), Check.ARGUMENT);
        x.cut(4);
        Check.due("7 as long", x.entry(0, 1, 3), 4);
        x.cut(2);
        Check.due("7 shorter", Check.bytes(x, 0, 1, false), "ab");
        x.cut(0);
        Check.due("7 to nothing", x.entry(0, 1, 3), 0);
        Check.due("7 bytes", x.about(5), 0);
        Check.due("7 the tape stays", x.about(6), 2);
        x.begin(1);
        Check.due("7 under way", Check.of(() -> x.cut(9)), Check.STATE);
    }

    private static void set() {
        Works x = new Works();
        Check.due("8 nothing is chosen, first", Check.of(() -> x.set(-1, -1, true)), Check.STATE);
        Check.make(x, "d", 2, 1, 1);
        x.set(4095, 9, false);
        Check.due("8 mode", x.entry(0, 0, 1), 4095);
        Check.due("8 time", x.entry(0, 0, 2), 9);
        Check.due("8 no file", Check.of(() -> x.set(1, 1, true)), Check.ARGUMENT);
        Check.due("8 nothing is set then", x.entry(0, 0, 1), 4095);
        Check.make(x, "l", 3, 1, 1);
        Check.due("8 a link is no file", Check.of(() -> x.set(1, 1, true)), Check.ARGUMENT);
        for (int i = 0; i < 4; i++) {
            Check.make(x, "f" + i, 1, 1, 1);
            if (i < 3) {
                x.set(i, i, true);
                Check.due("8 locked", x.entry(0, 1 + i, 5), 1);
            }
        }
        Check.due("8 mode -1", Check.of(() -> x.set(-1, 0, false)), Check.ARGUMENT);
        Check.due("8 mode 4096", Check.of(() -> x.set(4096, 0, false)), Check.ARGUMENT);
        Check.due("8 time -1", Check.of(() -> x.set(0, -1, false)), Check.ARGUMENT);
        Check.due("8 three others, last", Check.of(() -> x.set(0, -1, true)), Check.ARGUMENT);
        Check.due("8 three others", Check.of(() -> x.set(0, 0, true)), Check.STATE);
        Check.due("8 nothing is set then, too", x.entry(0, 4, 1), 1);
        Check.choose(x, "f1");
        x.set(7, 7, true);
        Check.due("8 two others", x.entry(0, 2, 1), 7);
        x.set(7, 7, false);
        Check.due("8 no more locked", x.entry(0, 2, 5), 0);
        Check.choose(x, "f3");
        x.set(0, 0, true);
        Check.due("8 the third", x.entry(0, 4, 5), 1);
        x.begin(1);
        Check.due("8 under way, first", Check.of(() -> x.set(-1, 0, false)), Check.STATE);
    }

    private static void remove() {
        Works x = new Works();
        Check.due("9 nothing is chosen", Check.of(x::remove), Check.STATE);
        Check.make(x, "d", 2, 0, 0);
        Check.make(x, "d/e", 2, 0, 0);
        Check.file(x, "d/e/f", "abc");
        x.set(0, 0, true);
        Check.file(x, "d f", "z");
        Check.file(x, "d0", "y");
        Check.choose(x, "d/e");
        Check.due("9 with what is below", x.remove(), 2);
        Check.due("9 nothing is chosen then", Check.of(x::remove), Check.STATE);
        Check.due("9 the others", Check.tree(x, 0), "d 2 0 0 [];d f 1 420 7 [z];d0 1 420 7 [y];");
        Check.due("9 bytes", x.about(5), 2);
        Check.choose(x, "d");
        x.begin(1);
        Check.due("9 under way", Check.of(x::remove), Check.STATE);
        Check.finish(x);
        Check.due("9 one", x.remove(), 1);
        Check.make(x, "d", 1, 5, 5);
        Check.due("9 what comes anew", Check.tree(x, 0), "d 1 5 5 [];d f 1 420 7 [z];d0 1 420 7 [y];");
        Check.make(x, "f", 1, 0, 0);
        Check.due("9 is not locked", x.entry(0, 3, 5), 0);
    }

    private static void entryAndAt() {
        Works x = new Works();
        String[] paths = {"d", "e", "d/z", "d/\001", "d\001", "d.", "d/z z", "d/\u00ff", "D", "\u0080", "~"};
        for (String path : paths) {
            Check.make(x, path, path.equals("d") ? 2 : 1, 5, 6);
        }
        String[] order = {"D", "d", "d/\001", "d/z", "d/z z", "d/\u00ff", "d\001", "d.", "e", "~", "\u0080"};
        for (int i = 0; i < order.length; i++) {
            Check.due("17 in order", Check.bytes(x, 0, i, true), order[i]);
            Check.due("17 how long the path is", x.entry(0, i, 4), order[i].length());
        }
        Check.make(x, "d/z y", 3, 4095, Integer.MAX_VALUE);
        Check.write(x, "abc\u00ff", 0);
        int[] facts = {3, 4095, Integer.MAX_VALUE, 4, 5, 0};
        for (int what = 0; what < 6; what++) {
            Check.due("17 what " + what, x.entry(0, 4, what), facts[what]);
            Check.due("17 no entry -1", x.entry(0, -1, what), -1);
            Check.due("17 no entry 12", x.entry(0, 12, what), -1);
            Check.due("17 no tree 1", x.entry(1, 0, what), -1);
            Check.due("17 no tree 3", x.entry(3, 0, what), -1);
            Check.due("17 no tree -1", x.entry(-1, 0, what), -1);
            Check.due("17 no result", x.entry(2, 0, what), -1);
        }
        Check.due("17 another what", x.entry(0, 0, 6), -1);
        Check.due("17 what -1", x.entry(0, 0, -1), -1);
        Check.due("17 a directory's content", x.entry(0, 1, 3), 0);
        Check.due("18 content", x.at(0, 4, false, 3), 255);
        Check.due("18 path", x.at(0, 4, true, 3), 32);
        Check.due("18 behind the content", x.at(0, 4, false, 4), -1);
        Check.due("18 behind the path", x.at(0, 4, true, 5), -1);
        Check.due("18 -1", x.at(0, 4, false, -1), -1);
        Check.due("18 path -1", x.at(0, 4, true, -1), -1);
        Check.due("18 far behind", x.at(0, 4, true, Integer.MAX_VALUE), -1);
        Check.due("18 a directory", x.at(0, 1, false, 0), -1);
        Check.due("18 no entry", x.at(0, 12, true, 0), -1);
        Check.due("18 no entry -1", x.at(0, Integer.MIN_VALUE, true, 0), -1);
        Check.due("18 no tree", x.at(1, 0, true, 0), -1);
        Check.session(x, 1);
        Check.restore(x, "now");
        Check.due("18 of the result", x.at(2, 4, false, 3), 255);
        Check.due("17 of the result", Check.tree(x, 2), Check.tree(x, 0));
        Check.choose(x, "~");
        x.set(1, 1, true);
        Check.session(x, 2);
        Check.restore(x, "now");
        Check.due("17 locked", x.entry(0, 10, 5), 1);
        Check.due("17 not in the result", x.entry(2, 10, 5), 0);
    }

    public static void main(String[] args) {
        aNewObject();
        feed();
        end();
        make();
        choose();
        write();
        cut();
        set();
        remove();
        entryAndAt();
        Check.close();
    }
}
