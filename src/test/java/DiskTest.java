/** Promises 10 to 16, 19 to 21 and 25: sessions, pruning, recovery, and what is read from the disk. */
public final class DiskTest {
    private DiskTest() {
    }

    /** Two sessions, 100 and 200: a stays, b is other, c goes, e comes. */
    private static Works two() {
        Works x = new Works();
        Check.file(x, "a", "aa");
        Check.file(x, "b", "bb");
        Check.file(x, "c", "cc");
        Check.session(x, 100);
        Check.choose(x, "b");
        Check.write(x, "B", 1);
        Check.choose(x, "c");
        x.remove();
        Check.file(x, "e", "");
        return x;
    }

    private static final String FIRST = "a 1 420 7 [aa];b 1 420 7 [bb];c 1 420 7 [cc];";
    private static final String SECOND = "a 1 420 7 [aa];b 1 420 7 [bB];e 1 420 7 [];";

    private static void begin() {
        Works x = new Works();
        Check.due("10 below 0", Check.of(() -> x.begin(-1)), Check.ARGUMENT);
        Check.due("10 an empty tree", x.begin(0), 7);
        Check.due("10 state", x.about(0), 1);
        Check.due("10 under way, first", Check.of(() -> x.begin(-1)), Check.STATE);
        Check.finish(x);
        Check.due("10 not above", Check.of(() -> x.begin(0)), Check.ARGUMENT);
        Check.make(x, "d", 2, 0, 0);
        Check.due("10 directories have no content", x.begin(1), 7);
        Check.finish(x);
        Works y = two();
        Check.due("10 not above, two", Check.of(() -> y.begin(100)), Check.ARGUMENT);
        Check.due("10 one other, one gone, one new", y.begin(101), 7 + 8 + 5 + 6);
        y.crash(0);
        Check.due("10 broken", Check.of(() -> y.begin(300)), Check.STATE);
        Works z = new Works();
        for (int i = 0; i < 30; i++) {
            Check.session(z, i);
        }
        Check.due("10 there are 30, first", Check.of(() -> z.begin(-1)), Check.STATE);
        Check.due("10 there are 30", Check.of(() -> z.begin(30)), Check.STATE);
        Check.due("10 the latest time", z.about(1), 30);
        Check.prune(z, "28B");
        Check.finish(z);
        Check.due("10 29 now", z.begin(Integer.MAX_VALUE), 7);
    }

    private static void operations() {
        Works x = two();
        x.begin(200);
        String[] disks = {
            "3 0 3 1 1 1 0", "3 0 3 1 1 1 0", "3 0 4 1 1 1 0", "3 0 4 1 1 1 0", "2 1 4 1 1 1 0", "2 1 4 1 1 1 1",
            "2 1 4 1 1 1 1", "3 1 4 1 1 1 0", "3 1 4 1 1 1 0", "3 1 5 1 1 1 0", "3 1 5 1 1 1 0", "2 2 5 1 1 1 0",
            "2 2 5 1 1 1 0", "2 2 6 1 1 1 0", "2 2 6 1 1 1 0", "2 2 6 1 1 1 1", "2 2 6 1 1 1 1", "3 2 6 1 1 1 0",
            "3 2 6 1 1 1 0", "3 2 6 2 1 1 0", "3 2 6 2 1 1 0", "3 2 6 2 0 2 0", "3 2 6 2 0 2 0", "3 1 6 2 0 2 0",
            "3 0 6 2 0 2 0", "3 0 6 2 0 2 0",
        };
        for (int i = 0; i < disks.length; i++) {
            Check.due("13 one", x.step(1), 1);
            Check.due("21 behind operation " + (i + 1), Check.disk(x), disks[i]);
            Check.due("20 done", x.about(2), i < disks.length - 1 ? i + 1 : 0);
            Check.due("20 committed", x.about(1), i < 21 ? 1 : 2);
            Check.due("25 committed", x.session(1, 0), i < 21 ? -1 : 200);
        }
        Check.due("13 at rest behind the last one", x.about(0), 0);
        Check.due("20 in all", x.about(7), 25 + 26);
        Check.due("21 another sort", x.disk(7), -1);
        Check.due("21 sort -1", x.disk(-1), -1);
        Check.due("20 another what", x.about(8), -1);
        Check.due("20 what -1", x.about(-1), -1);
    }

    private static void step() {
        Works x = two();
        Check.due("13 nothing to do", Check.of(() -> x.step(1)), Check.STATE);
        Check.due("13 nothing to do, first", Check.of(() -> x.step(-1)), Check.STATE);
        x.begin(200);
        Check.due("13 -1", Check.of(() -> x.step(-1)), Check.ARGUMENT);
        Check.due("13 401", Check.of(() -> x.step(401)), Check.ARGUMENT);
        Check.due("13 none", x.step(0), 0);
        Check.due("13 some", x.step(25), 25);
        Check.due("13 still under way", x.about(0), 1);
        Check.due("13 as many as there are", x.step(400), 1);
        Check.due("13 at rest", x.about(0), 0);
        Check.due("14 nothing to break off", Check.of(() -> x.crash(0)), Check.STATE);
        Works y = new Works();
        Check.make(y, "d", 2, 0, 0);
        for (int i = 0; i < 39; i++) {
            Check.make(y, "d/" + i, 1, 0, 0);
        }
        Check.session(y, 1);
        Check.choose(y, "d");
        y.remove();
        for (int i = 0; i < 40; i++) {
            Check.make(y, "f" + i, 1, 0, 0);
        }
        Check.due("10 79 changes", y.begin(2), 7 + 39 * 5 + 40 * 6);
        Check.due("13 400 at once", y.step(400), 400);
        Check.due("13 the others", y.step(400), 42);
    }

    /** Breaks off behind each operation of a session, with each number of those that stay. */
    private static void crashes() {
        for (int done = 0; done < 26; done++) {
            for (int n = 0; n < 4; n++) {
                Works x = two();
                x.begin(200);
                x.step(done);
                x.crash(n);
                Check.due("14 broken", x.about(0), 3);
                Check.due("20 nothing is done of it", x.about(2), 0);
                boolean committed = x.disk(5) == 2;
                Check.due("14 committed or begun", x.disk(4), committed || done < 2 && n < 1 || done == 0 ? 0 : 1);
                recovered(x, committed, "14 " + done + ", " + n);
            }
        }
    }

    private static void recovered(Works x, boolean committed, String what) {
        int count = x.recover();
        Check.due(what + " state", x.about(0), 4);
        Check.due(what + " recovers", x.step(400), count);
        Check.due(what + " disk", Check.disk(x).substring(0, 4), "3 0 ");
        Check.due(what + " told", x.disk(3), committed ? 2 : 1);
        Check.due(what + " begun", x.disk(4), 0);
        Check.due(what + " next", x.disk(6), 0);
        Check.due(what + " right now", Check.verify(x, "now"), 0);
        Check.due(what + " now", Check.tree(x, 2), committed ? SECOND : FIRST);
        Check.due(what + " right 100", Check.verify(x, "100"), 0);
        Check.due(what + " 100", Check.tree(x, 2), FIRST);
        if (!committed) {
            Check.session(x, 200);
            Check.restore(x, "now");
            Check.due(what + " again", Check.tree(x, 2), SECOND);
        }
    }

    private static void crash() {
        Works x = two();
        Check.due("14 at rest, first", Check.of(() -> x.crash(-1)), Check.STATE);
        x.begin(200);
        Check.due("14 -1", Check.of(() -> x.crash(-1)), Check.ARGUMENT);
        Check.due("14 still under way", x.about(0), 1);
        x.step(6);
        Check.due("14 one of two", x.crash(1), 1);
        Check.due("14 disk", Check.disk(x), "2 1 4 1 1 1 0");
        Check.due("14 broken", Check.of(() -> x.crash(0)), Check.STATE);
        Check.due("14 no steps", Check.of(() -> x.step(1)), Check.STATE);
        Check.due("20 those that were lost, too", x.about(7), 25 + 6);
        x.recover();
        x.step(1);
        Check.due("14 recovery breaks off", x.crash(0), 0);
        Check.due("14 what stayed stays", Check.disk(x), "2 1 4 1 1 1 0");
        Works y = two();
        y.begin(200);
        y.step(6);
        Check.due("14 all if there are fewer", y.crash(Integer.MAX_VALUE), 2);
        Check.due("14 disk, all", Check.disk(y), "2 1 4 1 1 1 1");
        Works z = two();
        z.begin(200);
        z.step(22);
        Check.due("14 the commit is lost", z.crash(0), 0);
        Check.due("14 no session", z.session(1, 0), -1);
        Check.due("14 begun again", Check.disk(z), "3 2 6 2 1 1 0");
    }

    private static void recover() {
        Works x = two();
        Check.due("12 at rest", Check.of(x::recover), Check.STATE);
        x.begin(200);
        Check.due("12 under way", Check.of(x::recover), Check.STATE);
        x.step(19);
        x.crash(0);
        // Two U back, the M of e, SYNC, three I, SYNC, B, SYNC.
        Check.due("12 a session is undone", x.recover(), 2 + 1 + 1 + 3 + 1 + 1 + 1);
        Check.due("12 it recovers", Check.of(x::recover), Check.STATE);
        String[] disks = {"3 1 6 1 1 1 0", "4 0 6 1 1 1 0", "3 0 6 1 1 1 0", "3 0 6 1 1 1 0", "3 0 5 1 1 1 0",
            "3 0 4 1 1 1 0", "3 0 3 1 1 1 0", "3 0 3 1 1 1 0", "3 0 3 1 0 1 0", "3 0 3 1 0 1 0"};
        for (int i = 0; i < disks.length; i++) {
            x.step(1);
            Check.due("12 behind operation " + (i + 1), Check.disk(x), disks[i]);
        }
        Check.due("12 at rest again", x.about(0), 0);
        committed();
        pruned();
    }

    private static void committed() {
        Works x = two();
        x.begin(200);
        x.step(23);
        x.crash(0);
        // Two U, three I of the oldest session, SYNC.
        Check.due("12 what was committed is finished", x.recover(), 2 + 3 + 1);
        x.step(1);
        Check.due("12 U first", Check.disk(x), "3 1 6 2 0 2 0");
        x.step(2);
        Check.due("12 then I", Check.disk(x), "3 0 5 2 0 2 0");
        Check.due("12 it breaks off", x.crash(1), 1);
        Check.due("12 one stays", Check.disk(x), "3 1 6 2 0 2 0");
        Check.due("12 once more", x.recover(), 1 + 3 + 1);
        Check.finish(x);
        Check.due("12 disk", Check.disk(x), "3 0 3 2 0 2 0");
        Works y = new Works();
        Check.file(y, "a", "a");
        y.begin(5);
        y.crash(0);
        Check.due("12 nothing at all", y.recover(), 1);
        Check.finish(y);
        y.begin(5);
        y.step(1);
        Check.due("12 B may stay", y.crash(1), 1);
        Check.due("12 B goes", y.recover(), 4);
    }

    private static Works four() {
        Works x = two();
        Check.session(x, 200);
        Check.choose(x, "a");
        x.cut(0);
        Check.session(x, 300);
        x.remove();
        Check.session(x, 400);
        return x;
    }

    private static void pruned() {
        Works x = four();
        Check.prune(x, "300");
        x.step(2);
        Check.due("12 pruning breaks off", x.crash(1), 1);
        Check.due("11 one C is gone", Check.disk(x), "2 0 8 4 0 3 0");
        // T of 100, I of 100 and 200, SYNC.
        Check.due("12 what was forgotten goes", x.recover(), 1 + 6 + 1);
        x.step(1);
        Check.due("12 T first", Check.disk(x), "2 0 8 3 0 3 0");
        Check.finish(x);
        Check.due("12 disk", Check.disk(x), "2 0 2 3 0 3 0");
        Check.restore(x, "200");
        Check.due("12 the oldest", Check.tree(x, 2), SECOND);
    }

    private static void prune() {
        Works x = four();
        Check.due("11 no time", Check.prune(x, "x"), Check.ARGUMENT);
        Check.due("11 the tape", x.about(6), 0);
        Check.due("11 means none", Check.prune(x, "99"), Check.ARGUMENT);
        // Two C, SYNC, two T, I: 3, 3 and 1, SYNC.
        Check.due("11 up to 300", Check.prune(x, "300"), 2 + 1 + 2 + 7 + 1);
        Check.due("11 state", x.about(0), 2);
        Check.tape(x, "now");
        Check.due("11 it prunes", Check.of(x::prune), Check.STATE);
        Check.due("11 the tape stays", x.about(6), 3);
        String[] disks = {"2 0 8 4 0 3 0", "2 0 8 4 0 2 0", "2 0 8 4 0 2 0", "2 0 8 3 0 2 0", "2 0 8 2 0 2 0",
            "2 0 7 2 0 2 0", "2 0 6 2 0 2 0", "2 0 5 2 0 2 0", "2 0 4 2 0 2 0", "2 0 3 2 0 2 0", "2 0 2 2 0 2 0",
            "2 0 1 2 0 2 0", "2 0 1 2 0 2 0"};
        for (int i = 0; i < disks.length; i++) {
            x.step(1);
            Check.due("11 behind operation " + (i + 1), Check.disk(x), disks[i]);
        }
        Check.due("11 at rest", x.about(0), 0);
        Check.due("11 the words on the tape", Check.of(x::restore), 2);
        Check.due("11 forgotten", Check.restore(x, "200"), Check.ARGUMENT);
        Check.due("11 it stays", Check.restore(x, "300"), 3);
        Check.due("11 as it was", Check.tree(x, 2), "a 1 420 7 [];b 1 420 7 [bB];e 1 420 7 [];");
        Check.due("25 told of when it was committed", x.session(0, 4), 1);
        Check.due("11 two SYNCs", Check.prune(x, "1B"), 2);
        Check.due("10 it prunes", Check.of(() -> x.begin(500)), Check.STATE);
    }

    private static void edits() {
        Works x = four();
        Check.prune(x, "300");
        Check.due("4 while it prunes", Check.make(x, "z", 1, 0, 0), 3);
        Check.due("6 while it prunes", Check.write(x, "z", 0), 1);
        x.crash(0);
        Check.due("4 while it is broken", Check.make(x, "y", 1, 0, 0), 4);
        x.recover();
        x.set(1, 1, true);
        Check.due("9 while it recovers", x.remove(), 1);
    }

    private static void restore() {
        Works x = four();
        Check.due("15 how many", Check.restore(x, "100"), 3);
        Check.due("15 the tape", x.about(6), 0);
        Check.due("15 100", Check.tree(x, 2), FIRST);
        Check.due("20 result", x.about(4), 3);
        Check.due("15 no time", Check.restore(x, "1x"), Check.ARGUMENT);
        Check.due("15 the tape then", x.about(6), 0);
        Check.due("15 the result stays", Check.tree(x, 2), FIRST);
        Check.restore(x, "299");
        Check.due("15 200", Check.tree(x, 2), SECOND);
        Check.due("16 of 400", Check.verify(x, "now"), 0);
        Check.due("16 the result", Check.tree(x, 2), "b 1 420 7 [bB];e 1 420 7 [];");
        Check.due("16 no time", Check.verify(x, ""), Check.ARGUMENT);
        Check.prune(x, "0B");
        Check.tape(x, "now");
        Check.due("15 it prunes, first", Check.of(x::restore), Check.STATE);
        Check.due("16 it prunes, first", Check.of(x::verify), Check.STATE);
        Check.due("15 the tape stays", x.about(6), 3);
        x.crash(0);
        Check.due("15 broken", Check.of(x::restore), Check.STATE);
        x.recover();
        Check.due("16 it recovers", Check.of(x::verify), Check.STATE);
        Check.finish(x);
        Check.due("16 then", Check.of(x::verify), 0);
        kinds();
    }

    /** What was a file becomes a directory, then a link, and is no content change as such. */
    private static void kinds() {
        Works x = new Works();
        Check.file(x, "p", "abc");
        Check.session(x, 1);
        x.remove();
        Check.make(x, "p", 2, 1, 1);
        Check.file(x, "p/q", "in");
        Check.session(x, 2);
        Check.choose(x, "p");
        x.remove();
        Check.make(x, "p", 3, 420, 7);
        Check.write(x, "abc", 0);
        Check.session(x, 3);
        x.remove();
        Check.file(x, "p", "abc");
        Check.due("10 the same bytes, whatever the kinds", x.begin(4), 7);
        Check.finish(x);
        Check.due("25 changes", x.session(3, 2), 0);
        Check.due("25 other", x.session(3, 4), 1);
        String[] trees = {"p 1 420 7 [abc];", "p 2 1 1 [];p/q 1 420 7 [in];", "p 3 420 7 [abc];", "p 1 420 7 [abc];"};
        for (int i = 0; i < 4; i++) {
            Check.due("16 right", Check.verify(x, String.valueOf(i + 1)), 0);
            Check.due("15 tree " + (i + 1), Check.tree(x, 2), trees[i]);
        }
    }

    private static void times() {
        Works x = new Works();
        int[] times = {0, 59, 3600, 86400, 1000000};
        for (int i = 0; i < times.length; i++) {
            Check.make(x, "f" + i, 1, 0, 0);
            Check.session(x, times[i]);
        }
        String[] words = {"now", "0B", "1B", "4B", "0004B", "5B", "9999B", "00000B", "B", "1000000", "001000000",
            "999999", "0", "58", "59", "000000000", "0000000000", "0s", "1s", "913600s", "913601s", "10D", "11D", "1W",
            "1W4D", "4D1W", "1W4D13h46m40s", "40s46m13h4D1W", "1W4D13h46m41s", "999999W", "1s1s", "1s1m1s", "000001s",
            "0000001s", "1S", "1d", "1w", "s", "1", "", " now", "now ", "Now", "no", "nows", "1B1s", "1s1B", "1s1", "-1",
            "+1", "1.", "0D0W0h0s0m", "0D0W0h0s0m0s", "1000000s", "1 s", "1b", "999999W999999D999999h999999m999999s"};
        int[] sessions = {5, 5, 4, 1, 1, 0, 0, 0, 0, 5, 5, 4, 1, 1, 2, 1, 0, 5, 4, 4, 3, 4, 3, 4, 3, 3, 1, 1, 0, 0,
            0, 0, 4, 0, 0, 0, 0, 0, 1, 0, 0, 0, 0, 0, 0, 0, 0, 0, 0, 0, 0, 5, 0, 0, 0, 0, 0};
        for (int i = 0; i < words.length; i++) {
            int due = sessions[i] == 0 ? Check.ARGUMENT : sessions[i];
            Check.due("15 time [" + words[i] + "]", Check.restore(x, words[i]), due);
        }
    }

    private static void locked() {
        Works x = new Works();
        Check.file(x, "f", "one");
        x.set(1, 1, true);
        Check.due("10 locked and not there before", x.begin(1), 7);
        Check.finish(x);
        Check.due("25 errors", x.session(0, 7), 1);
        Check.due("25 entries", x.session(0, 1), 0);
        x.set(2, 2, false);
        Check.session(x, 2);
        Check.write(x, "two", 0);
        x.set(3, 3, true);
        Check.due("10 locked and there before", x.begin(3), 7);
        Check.finish(x);
        Check.restore(x, "now");
        Check.due("15 as it was before", Check.tree(x, 2), "f 1 2 2 [one];");
        Check.due("25 not other", x.session(2, 4), 0);
        Check.due("25 bytes", x.session(2, 6), 3);
        x.remove();
        Check.make(x, "f", 3, 4, 4);
        Check.session(x, 4);
        x.remove();
        Check.file(x, "f", "three");
        x.set(5, 5, true);
        Check.session(x, 5);
        Check.due("15 locked and no file before", Check.restore(x, "now"), 0);
        Check.due("25 gone", x.session(4, 5), 1);
        Check.due("25 changes", x.session(4, 2), 1);
        Check.due("16 right", Check.verify(x, "2B"), 0);
    }

    private static void facts() {
        Works x = two();
        Check.make(x, "d", 2, 0, 0);
        Check.session(x, 200);
        int[][] facts = {{100, 3, 3, 3, 0, 0, 6, 0}, {200, 4, 3, 2, 1, 1, 4, 0}};
        for (int i = 0; i < 2; i++) {
            for (int what = 0; what < 8; what++) {
                Check.due("25 session " + i + ", " + what, x.session(i, what), facts[i][what]);
            }
            Check.due("25 another what", x.session(i, 8), -1);
            Check.due("25 what -1", x.session(i, -1), -1);
        }
        Check.due("25 no session", x.session(2, 0), -1);
        Check.due("25 session -1", x.session(-1, 0), -1);
        Check.due("25 far", x.session(Integer.MAX_VALUE, 0), -1);
        x.set(7, 7, false);
        x.begin(300);
        x.step(4);
        Check.due("25 not ahead of the commit", x.session(2, 0), -1);
        Check.finish(x);
        Check.due("25 the mode alone", x.session(2, 4), 1);
        Check.due("25 is no content change", x.session(2, 2), 0);
    }

    private static void sums() {
        Works x = new Works();
        Check.make(x, "d", 2, 0, 0);
        int[] lengths = {0, 3, 55, 56, 63, 64, 119, 120};
        for (int length : lengths) {
            Check.file(x, "f" + (char) ('0' + x.about(3)), "abc".repeat(40).substring(0, length));
        }
        Check.session(x, 1);
        Check.due("16 right", Check.verify(x, "now"), 0);
        Check.due("19 of nothing", x.sum(1, 0), 0xe3b0c442);
        Check.due("19 of nothing, the last", x.sum(1, 7), 0x7852b855);
        int[] abc = {0xba7816bf, 0x8f01cfea, 0x414140de, 0x5dae2223, 0xb00361a3, 0x96177a9c, 0xb410ff61, 0xf20015ad};
        for (int k = 0; k < 8; k++) {
            Check.due("19 of abc", x.sum(2, k), abc[k]);
            Check.due("19 a directory", x.sum(0, k), 0);
            Check.due("19 no entry", x.sum(9, k), 0);
            Check.due("19 no entry -1", x.sum(-1, k), 0);
        }
        Check.due("19 no word 8", x.sum(2, 8), 0);
        Check.due("19 no word -1", x.sum(2, -1), 0);
        for (int i = 0; i < lengths.length; i++) {
            byte[] digest = digest("abc".repeat(40).substring(0, lengths[i]));
            for (int k = 0; k < 8; k++) {
                Check.due("19 of " + lengths[i], x.sum(1 + i, k), Check.word(digest, 4 * k));
            }
        }
    }

    private static byte[] digest(String text) {
        try {
            byte[] bytes = text.getBytes(java.nio.charset.StandardCharsets.ISO_8859_1);
            return java.security.MessageDigest.getInstance("SHA-256").digest(bytes);
        } catch (java.security.NoSuchAlgorithmException e) {
            throw new AssertionError(e);
        }
    }

    public static void main(String[] args) {
        begin();
        operations();
        step();
        crashes();
        crash();
        recover();
        prune();
        edits();
        restore();
        times();
        locked();
        facts();
        sums();
        Check.close();
    }
}
