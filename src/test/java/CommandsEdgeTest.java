/** The edges of commands, as the document names them ahead of promise 1, and promises 22 to 24. */
public final class CommandsEdgeTest {
    private static final String[] ALL = {"backup 999", "prune now", "verify now", "check", "restore now", "restore now d", "list now",
        "list now d", "changes 10 20", "sessions"};

    private CommandsEdgeTest() {
    }

    /**
     * Session 10: d, d/a b with abc, d. without bytes. Session 20: d with other mode and time, d/a b, a link d/%255~ with to.
     */
    private static Works two() {
        Works x = new Works();
        Check.make(x, "d", 2, 493, 5);
        Check.file(x, "d/a b", "abc");
        Check.file(x, "d.", "");
        Check.session(x, 10);
        x.remove();
        Check.make(x, "d/%\u00ff~", 3, 511, 8);
        Check.write(x, "to", 0);
        Check.choose(x, "d");
        x.set(7, 0, false);
        Check.session(x, 20);
        return x;
    }

    private static Works broken() {
        Works x = two();
        Check.command(x, "check");
        x.begin(30);
        x.step(2);
        x.crash(0);
        return x;
    }

    private static Works full() {
        Works x = new Works();
        Check.make(x, "d", 2, 0, 0);
        for (int i = 0; i < 30; i++) {
            Check.session(x, 10 + i);
        }
        return x;
    }

    /** A command on a twin, so that none follows upon another: its code and its output. */
    private static void due(Works of, String words, int code, String output) {
        Works x = of.twin();
        Check.due("[" + words + "]", Check.command(x, words), code);
        Check.due("[" + words + "], output", Check.output(x), output);
        Check.due("[" + words + "], the tape", x.about(6), 0);
    }

    /** A command on a twin that is refused with a code: nothing is done, and the output is empty. */
    private static void refused(Works of, String words, int code) {
        Works x = of.twin();
        Check.command(x, "none such");
        Check.tape(x, words);
        Check.refusedAndTaken("[" + words + "]", x, x::command, code);
        Check.due("[" + words + "], output", x.output(), 0);
        Works y = of.twin();
        if (y.about(0) == 0) {
            Check.command(y, "check");
        }
        Check.due("[" + words + "], output ahead of it", y.output() > 0 ? 1 : 0, 1);
        Check.due("[" + words + "], again", Check.command(y, words), code);
        Check.due("[" + words + "], output again", y.output(), 0);
        Check.due("[" + words + "], none of it", y.outputAt(0), -1);
    }

    private static void blanks() {
        Check.sentence("COMMANDS: words with BLANKS (32) between, perhaps also ahead and behind.");
        Works x = two();
        String sessions = "10 3 2\n20 3 2\n";
        due(x, "sessions", 0, sessions);
        due(x, " sessions", 0, sessions);
        due(x, "sessions ", 0, sessions);
        due(x, "   sessions    ", 0, sessions);
        due(x, " ".repeat(392) + "sessions", 0, sessions);
        due(x, "sessions" + " ".repeat(392), 0, sessions);
        due(x, "  list   10    d.   ", 0, "f 0644 7 0 d.\n");
        due(x, "list" + " ".repeat(191) + "10" + " ".repeat(201) + "d.", 0, "f 0644 7 0 d.\n");
        refused(x, "list" + " ".repeat(393) + "1m1", 2);
        refused(x, "list" + " ".repeat(395) + "1", 2);
        refused(x, "list now" + " ".repeat(390) + "d%", 5);
        refused(x, "list now" + " ".repeat(389) + "d%2", 5);
        for (String none : new String[] {"\tsessions", "sessions\t", "sessions\n", "sessions\0", "list\t10", "list\0now", "list\u00a010",
            "list\03710", "list!10", "list10", "list10 d.", "ses sions"}) {
            refused(x, none, 1);
        }
        refused(x, "list 10\td.", 2);
        refused(x, "list 10\0", 2);
        refused(x, "list 10 d.\n", 5);
    }

    /** Each name of one byte is written as it should be, and is found as it is written. */
    private static void writtenPaths() {
        Check.sentence("A PATH is written with % and two hexadecimal digits (0 .. 9 a .. f) for each byte that is not 33 .. 126, or is %");
        int b = 1;
        while (b < 256) {
            Works x = new Works();
            StringBuilder due = new StringBuilder();
            for (int count = 0; count < 40 && b < 256; b++) {
                if (b == '/' || b == '.') {
                    continue;
                }
                Check.make(x, String.valueOf((char) b), 1, 0, b);
                due.append("f 0000 ").append(b).append(" 0 ").append(written(b)).append('\n');
                count++;
            }
            Check.session(x, 1);
            due(x, "list now", 0, due.toString());
            for (String line : due.toString().split("\n")) {
                due(x, "list now " + line.substring(line.lastIndexOf(' ') + 1), 0, line + "\n");
            }
            Check.session(x, 2);
            due(x, "changes 1 2", 0, "");
        }
        Works y = new Works();
        Check.make(y, " ", 2, 0, 0);
        Check.make(y, " /\u00ff", 2, 0, 0);
        Check.make(y, " /\u00ff/%!~\177", 3, 0, 0);
        Check.session(y, 1);
        due(y, "list now", 0, "d 0000 0 0 %20\nd 0000 0 0 %20/%ff\nl 0000 0 0 %20/%ff/%25!~%7f\n");
    }

    private static String written(int b) {
        return b < 33 || b > 126 || b == '%' ? String.format("%%%02x", b) : String.valueOf((char) b);
    }

    private static void readPaths() {
        Check.sentence("(what is read may have any byte so, also a /, and digits of both sizes; a % without two, and a byte that is not"
                + " 33 .. 126 as it is, make it no path).");
        Works x = two();
        String file = "f 0644 7 3 d/a%20b\n";
        String link = "l 0777 8 2 d/%25%ff~\n";
        for (String word : new String[] {"d/a%20b", "%64/a%20b", "d%2fa%20b", "d%2Fa%20b", "%64%2f%61%20%62", "d/%61%20b"}) {
            due(x, "list now " + word, 0, file);
            due(x, "restore now " + word, 0, "entries 1\nbytes 3\n");
        }
        for (String word : new String[] {"d/%25%ff~", "d/%25%FF~", "d/%25%fF%7e", "d/%25%Ff%7E", "%64%2F%25%ff%7E"}) {
            due(x, "list now " + word, 0, link);
            due(x, "restore now " + word, 0, "entries 1\nbytes 2\n");
        }
        for (String word : new String[] {"%", "d%", "d/%", "%6", "d/a%20b%", "d/a%20b%6", "d/a%2gb", "d/a%g0b", "d/a%2Gb", "d/a% 20b",
            "d/%%25%ff~", "d/%25%%ff~", "d/%25%ff%7", "d/%%ff~", "%%64", "%+4", "%-4", "%0x64", "d/\u0025\u00ff~", "d/%25\u00ff~",
            "d\177", "d\u0080", "d\001", "d/a\037b", "d\0", "%64\u00ff", "%00", "d%00", "%2f", "d%2f", "%2fd", "d%2f%2fa%20b", "%2e", "%2E%2e",
            "d/a%2/", "d/a%2:", "d/a%2@", "d/a%2`", "d/a%/0b", "d/a%:0b", "d/a%`0b", "d/a%@0b"}) {
            refused(x, "list now " + word, word.indexOf(' ') < 0 ? 5 : 1);
            refused(x, "restore now " + word, word.indexOf(' ') < 0 ? 5 : 1);
        }
        everyByte();
        nearPaths();
        noDigits();
        longestPath();
    }

    /** Each name of one byte is found by its two digits of both sizes, and as it is only if it is 33 .. 126. */
    private static void everyByte() {
        for (int b = 1; b < 256; b++) {
            if (b == '/' || b == '.') {
                continue;
            }
            Works x = new Works();
            Check.make(x, "a" + (char) b, 1, 0, b);
            Check.session(x, 1);
            String line = "f 0000 " + b + " 0 a" + written(b) + "\n";
            due(x, "list now " + String.format("a%%%02x", b), 0, line);
            due(x, "list now " + String.format("a%%%02X", b), 0, line);
            due(x, "list now " + String.format("%%61%%%02x", b), 0, line);
            if (b > 32 && b < 127 && b != '%') {
                due(x, "list now a" + (char) b, 0, line);
            } else {
                refused(x, "list now a" + (char) b, 5);
            }
        }
    }

    /** What comes near a path that is there, by digits that are none or by what the tape had before, is none. */
    private static void nearPaths() {
        Works x = new Works();
        String[] paths = {"\037", "\001", "\u00f2", "\u00ef", "a ", "a\002", "a%", "a%2", "a2", "a0", "2", "g"};
        for (String path : paths) {
            Check.make(x, path, 1, 0, 0);
        }
        Check.session(x, 1);
        for (String word : new String[] {"%2g", "%g2", "%2G", "%G2", "%2/", "%2:", "%2@", "%2`", "%-1", "%1-", "a%2", "a%", "a%%", "%%2", "%0g"}) {
            Works y = x.twin();
            Check.command(y, "list now a%20%20%20");
            refused(y, "list now " + word, 5);
            Check.command(y, "list now " + "0".repeat(391));
            refused(y, "list now " + word, 5);
        }
        due(x, "list now a%25", 0, "f 0000 0 0 a%25\n");
        due(x, "list now a%252", 0, "f 0000 0 0 a%252\n");
        due(x, "list now a%20", 0, "f 0000 0 0 a%20\n");
    }

    /** A % with what is no digit, or is missing, is no path, whichever names of one byte there are. */
    private static void noDigits() {
        StringBuilder words = new StringBuilder("% %2 %% %%% %a %F");
        for (char c = 33; c < 127; c++) {
            if (Character.digit(c, 16) < 0) {
                words.append(" %2").append(c).append(" %").append(c).append('2').append(" %").append(c).append(c);
            }
        }
        int b = 1;
        while (b < 256) {
            Works x = new Works();
            for (int count = 0; count < 40 && b < 256; b++) {
                count += Check.make(x, String.valueOf((char) b), 1, 0, 0) < 0 ? 0 : 1;
            }
            Check.session(x, 1);
            for (String word : words.toString().split(" ")) {
                due(x, "list now " + word, 5, "");
            }
        }
    }

    private static void longestPath() {
        Works x = new Works();
        String name = "\u00ff".repeat(24);
        StringBuilder word = new StringBuilder();
        String path = "";
        for (int i = 0; i < 4; i++) {
            path += i == 0 ? name : "/" + name;
            word.append(i == 0 ? "" : "%2f").append("%ff".repeat(24));
            Check.make(x, path, 2, 0, 0);
        }
        Check.session(x, 1);
        due(x, "list now " + word, 0, "d 0000 0 0 " + word.toString().replace("%2f", "/") + "\n");
        refused(x, "list now " + word + "%ff", 5);
        refused(x, "list now " + word + "%2fa", 5);
        refused(x, "list now " + "a".repeat(391), 5);
    }

    private static void noCommand() {
        Check.sentence("1 no command (also without words), or not its number of words;");
        Works x = two();
        for (String none : new String[] {"", " ", " ".repeat(400), "a".repeat(400), "Backup 999", "BACKUP 999", "backups 999", "backu 999",
            "ackup 999", "999", "now", "d", "Check", "checks", "chec", "session", "sessionss", "Sessions", "lists now", "lis now", "List now",
            "restores now", "restor now", "verif now", "verifys now", "prun now", "prunes now", "change 10 20", "changess 10 20"}) {
            refused(x, none, 1);
        }
        for (String none : new String[] {"backup", "backup 999 1000", "backup 9 9 9", "prune", "prune now now", "verify", "verify now d",
            "check now", "check check", "restore", "restore now d d", "restore now d d d", "list", "list now d d", "changes", "changes now",
            "changes 10 20 30", "changes 10 20 d d", "sessions now", "sessions 10"}) {
            refused(x, none, 1);
        }
    }

    private static void noTime() {
        Check.sentence("2 words that are no time, or mean none;");
        Works x = two();
        for (String none : new String[] {"x", "9", "2B", "11s", "1s1s", "0000000020", "00000B", "d", "-1", "%31%30", "no%77"}) {
            for (String command : new String[] {"prune ", "verify ", "restore ", "list ", "changes now ", "changes 10 "}) {
                refused(x, command + none, 2);
            }
            refused(x, "restore " + none + " d", 2);
            refused(x, "list " + none + " d", 2);
            refused(x, "changes " + none + " now", 2);
            refused(x, "changes " + none + " " + none, 2);
        }
        Works y = new Works();
        for (String command : new String[] {"prune now", "verify 0B", "restore 0s", "list 999999999", "changes now now", "list now d"}) {
            refused(y, command, 2);
        }
    }

    private static void brokenOff() {
        Check.sentence("3 BROKEN;");
        for (String command : ALL) {
            if (!command.equals("check")) {
                refused(broken(), command, 3);
            }
        }
        due(broken(), "check", 0, "recovered\n");
    }

    private static void noSessionTime() {
        Check.sentence("4 a time that is none for a session (also no 1 to 9 digits), or not above that of the latest one;");
        Works x = two();
        for (String none : new String[] {"x", "now", "0B", "1s", "30s", "-1", "+30", "30.", "3O", "0000000030", "1000000000", "9999999999",
            "0", "10", "19", "20", "000000020", "%33%30", "30\t"}) {
            refused(x, "backup " + none, 4);
        }
        String done = "entries 3\nchanges 0\nnew 0\nother 0\ngone 0\nbytes 5\nerrors 0\n";
        due(x, "backup 21", 0, done);
        due(x, "backup 000000021", 0, done);
        due(x, "backup 999999999", 0, done);
        Works y = new Works();
        due(y, "backup 0", 0, "entries 0\nchanges 0\nnew 0\nother 0\ngone 0\nbytes 0\nerrors 0\n");
        Check.session(y, 999999999);
        refused(y, "backup 999999999", 4);
        Check.session(y, Integer.MAX_VALUE);
        refused(y, "backup 999999999", 4);
    }

    private static void noPath() {
        Check.sentence("5 a path that is none, or not in that TREE;");
        Works x = two();
        for (String command : new String[] {"restore ", "list "}) {
            due(x, command + "10 d.", 0, command.equals("list ") ? "f 0644 7 0 d.\n" : "entries 1\nbytes 0\n");
            refused(x, command + "20 d.", 5);
            refused(x, command + "10 d/%25%ff~", 5);
            for (String none : new String[] {".", "..", "/", "/d", "d/", "d//a%20b", "d/.", "d/..", "a", "D", "dd", "d/a", "d/a%20", "d/a%20bb",
                "d/d/d/d/d", "0123456789abcdefghijklmno", "d/a%20b/c"}) {
                refused(x, command + "now " + none, 5);
            }
        }
    }

    private static void fullOfSessions() {
        Check.sentence("6 there are 30 sessions;");
        Works x = full();
        refused(x, "backup 40", 6);
        refused(x, "backup 999999999", 6);
        due(x, "prune 28B", 0, "sessions 29\n");
        Check.command(x, "prune 28B");
        due(x, "backup 40", 0, "entries 1\nchanges 0\nnew 0\nother 0\ngone 0\nbytes 0\nerrors 0\n");
        Check.command(x, "backup 40");
        refused(x, "backup 41", 6);
    }

    private static void withErrors() {
        Check.sentence("7 done, with ERRORS or sums that are not as told.");
        Works x = two();
        Check.choose(x, "d/a b");
        x.set(1, 1, true);
        due(x, "backup 30", 7, "entries 3\nchanges 0\nnew 0\nother 0\ngone 0\nbytes 5\nerrors 1\n");
        Check.command(x, "backup 30");
        Check.due("it is done", x.about(1), 3);
        due(x, "verify now", 0, "wrong 0\n");
        due(x, "restore now", 0, "entries 3\nbytes 5\n");
        due(x, "sessions", 0, "10 3 2\n20 3 2\n30 3 0\n");
        due(x, "check", 0, "well\n");
        x.set(1, 1, false);
        due(x, "backup 31", 0, "entries 3\nchanges 0\nnew 0\nother 1\ngone 0\nbytes 5\nerrors 0\n");
    }

    private static void severalCodes() {
        Check.sentence("(Of several, each looked at by itself, the least but 7; with 1 to 6 nothing is done and the output is empty.)");
        Works x = broken();
        refused(x, "list x now d", 1);
        refused(x, "check it", 1);
        refused(x, "backup", 1);
        refused(x, "list x", 2);
        refused(x, "list 9 %", 2);
        refused(x, "restore 9 d", 2);
        refused(x, "changes now 9", 2);
        refused(x, "changes 9 now", 2);
        refused(x, "prune 9", 2);
        refused(x, "verify 2B", 2);
        refused(x, "list now %", 3);
        refused(x, "restore now e", 3);
        refused(x, "backup x", 3);
        refused(x, "backup 20", 3);
        refused(two(), "list 9 %", 2);
        refused(two(), "restore x nothing", 2);
        refused(full(), "backup 39", 4);
        refused(full(), "backup x", 4);
        refused(full(), "backup 1000000000", 4);
        refused(full(), "backup 40 41", 1);
        Works y = full();
        Check.command(y, "check");
        Check.prune(y, "now");
        y.crash(0);
        refused(y, "backup 40", 3);
        refused(y, "backup 39", 3);
        Works z = full();
        Check.make(z, "f", 1, 0, 0);
        z.set(0, 0, true);
        refused(z, "backup 40", 6);
        refused(z, "backup 39", 4);
    }

    private static void atOnce() {
        Check.sentence("Those that begin something do all of its OPERATIONS at once.");
        Works x = two();
        int before = x.about(7);
        Check.file(x, "e", "e");
        Check.command(x, "backup 30");
        Check.due("a session", x.about(7), before + 13);
        Check.due("at rest", x.about(0), 0);
        Check.due("disk", Check.disk(x), "3 0 5 3 0 3 0");
        Check.command(x, "prune 20");
        Check.due("pruning", x.about(7), before + 13 + 8);
        Check.due("at rest again", x.about(0), 0);
        Check.due("disk again", Check.disk(x), "3 0 1 2 0 2 0");
        x.begin(40);
        x.step(2);
        x.crash(0);
        Check.command(x, "check");
        Check.due("recovery", x.about(7), before + 13 + 8 + 2 + 4);
        Check.due("at rest at last", x.about(0), 0);
        Works y = new Works();
        Check.make(y, "d", 2, 0, 0);
        for (int i = 0; i < 39; i++) {
            Check.make(y, "d/" + i, 1, 0, 0);
        }
        Check.command(y, "backup 1");
        Check.choose(y, "d");
        y.remove();
        for (int i = 0; i < 40; i++) {
            Check.make(y, "f" + i, 1, 0, 0);
        }
        before = y.about(7);
        Check.due("more than 400 operations", Check.command(y, "backup 2"), 0);
        Check.due("all of them", y.about(7) - before, 7 + 39 * 5 + 40 * 6);
        Check.due("its output", Check.output(y), "entries 40\nchanges 79\nnew 40\nother 0\ngone 40\nbytes 0\nerrors 0\n");
        Check.due("at rest behind them", y.about(0), 0);
    }

    private static void backup() {
        Check.sentence("backup D (1 to 9 digits): a session of this time; output: each fact of session(), 1 to 7, as a line: entries,"
                + " changes, new, other, gone, bytes, errors, each with a space and the number.");
        Works x = new Works();
        due(x, "backup 0", 0, "entries 0\nchanges 0\nnew 0\nother 0\ngone 0\nbytes 0\nerrors 0\n");
        Check.make(x, "d", 2, 0, 0);
        Check.file(x, "d/a", "0123456789");
        Check.file(x, "b", "b");
        Check.file(x, "c", "c");
        Check.file(x, "z", "z");
        Check.command(x, "backup 000000005");
        Check.due("the first", Check.output(x), "entries 5\nchanges 4\nnew 5\nother 0\ngone 0\nbytes 13\nerrors 0\n");
        x.remove();
        Check.choose(x, "d/a");
        x.set(1, 1, true);
        Check.choose(x, "b");
        Check.write(x, "bbb", 1);
        Check.choose(x, "c");
        x.set(2, 2, false);
        Check.file(x, "e", "");
        Check.due("code", Check.command(x, "backup 999999999"), 7);
        Check.due("the second", Check.output(x), "entries 5\nchanges 3\nnew 1\nother 2\ngone 1\nbytes 15\nerrors 1\n");
        Check.due("its facts", Check.facts(x, 1), "999999999 5 3 1 2 1 15 1");
        Check.due("the result stays", x.about(4), 0);
    }

    private static void pruneAndVerify() {
        Check.sentence("prune T: as prune(); output, a line: sessions and how many are left.");
        Works x = two();
        due(x, "prune 10", 0, "sessions 2\n");
        due(x, "prune 19", 0, "sessions 2\n");
        due(x, "prune 20", 0, "sessions 1\n");
        due(full(), "prune 29B", 0, "sessions 30\n");
        due(full(), "prune 20B", 0, "sessions 21\n");
        due(full(), "prune 0B", 0, "sessions 1\n");
        Check.sentence("verify T: as verify(); output, a line: wrong and how many.");
        due(x, "verify 10", 0, "wrong 0\n");
        due(full(), "verify 29B", 0, "wrong 0\n");
        Works y = new Works();
        Check.session(y, 1);
        due(y, "verify now", 0, "wrong 0\n");
        Check.command(x, "verify 10");
        Check.due("the result", Check.tree(x, 2), "d 2 493 5 [];d/a b 1 420 7 [abc];d. 1 420 7 [];");
    }

    private static void check() {
        Check.sentence("check: recovers, if it is BROKEN (the one command that is done then); output, a line: recovered, or well.");
        due(new Works(), "check", 0, "well\n");
        due(two(), "check", 0, "well\n");
        Works x = new Works();
        x.begin(1);
        x.crash(0);
        due(x, "check", 0, "recovered\n");
        Works y = broken();
        Check.command(y, "check");
        Check.due("B/S is gone", Check.disk(y), "2 0 4 2 0 2 0");
        due(y, "check", 0, "well\n");
        Check.prune(y, "now");
        y.step(1);
        y.crash(1);
        due(y, "check", 0, "recovered\n");
        y.recover();
        y.crash(0);
        due(y, "check", 0, "recovered\n");
    }

    private static void restore() {
        Check.sentence("restore T or restore T PATH: as restore(); with a path only it and what lies below, with their whole paths; output,"
                + " two lines: entries and how many, bytes and how many of content.");
        Works x = new Works();
        Check.session(x, 1);
        due(x, "restore now", 0, "entries 0\nbytes 0\n");
        for (String path : new String[] {"d", "d/e", "d/e/f", "dd", "d\001", "d.", "e"}) {
            Check.make(x, path, path.equals("d/e/f") || path.equals("e") ? 1 : 2, 0, 0);
        }
        Check.write(x, "e", 0);
        Check.choose(x, "d/e/f");
        Check.write(x, "0123456789", 0);
        Check.session(x, 2);
        Check.command(x, "restore now d");
        Check.due("d", Check.output(x), "entries 3\nbytes 10\n");
        Check.due("the result", Check.tree(x, 2), "d 2 0 0 [];d/e 2 0 0 [];d/e/f 1 0 0 [0123456789];");
        Check.command(x, "restore now d/e/f");
        Check.due("d/e/f", Check.output(x), "entries 1\nbytes 10\n");
        Check.due("the result of one", Check.tree(x, 2), "d/e/f 1 0 0 [0123456789];");
        Check.command(x, "restore now dd");
        Check.due("dd", Check.output(x), "entries 1\nbytes 0\n");
        Check.command(x, "restore now");
        Check.due("all", Check.output(x), "entries 7\nbytes 11\n");
        Check.due("the whole result", Check.tree(x, 2), Check.tree(x, 0));
        Check.command(x, "restore 1");
        Check.due("an empty tree", Check.output(x), "entries 0\nbytes 0\n");
        Check.due("an empty result", x.about(4), 0);
    }

    private static void list() {
        Check.sentence("list T or list T PATH: the same entries (THE RESULT stays): of each a line: f, d or l, the MODE as four octal digits,"
                + " the TIME, how long its content is (0 of a DIRECTORY), the PATH, a space between.");
        Works x = new Works();
        Check.session(x, 1);
        due(x, "list now", 0, "");
        Check.make(x, "a", 1, 0, 0);
        Check.make(x, "b", 2, 4095, Integer.MAX_VALUE);
        Check.make(x, "b/c", 3, 8, 1000000000);
        Check.write(x, "0123456789".repeat(10), 0);
        Check.zeroFile(x, "b/d", 1, 1200);
        x.set(511, 10, false);
        Check.make(x, "b.", 2, 64, 9);
        Check.session(x, 2);
        String below = "d 7777 2147483647 0 b\nl 0010 1000000000 100 b/c\nf 0777 10 1200 b/d\n";
        due(x, "list now", 0, "f 0000 0 0 a\n" + below + "d 0100 9 0 b.\n");
        due(x, "list now b", 0, below);
        due(x, "list now b/d", 0, "f 0777 10 1200 b/d\n");
        due(x, "list now b.", 0, "d 0100 9 0 b.\n");
        Check.command(x, "restore now b/c");
        Check.command(x, "list now");
        Check.due("the result stays", x.about(4), 1);
        Check.command(x, "list 1");
        Check.due("the result still stays", x.about(4), 1);
    }

    private static void changes() {
        Check.sentence("changes T T: of the paths that one of these sessions' TREES has, in ORDER, each that differs (KIND, MODE, TIME or"
                + " content) as a line: new, gone or other, seen from the first T to the second, and the PATH.");
        Works x = new Works();
        Check.session(x, 1);
        String[] paths = {"content", "d", "d/same", "d.", "kind", "mode", "same", "time", "went"};
        for (String path : paths) {
            Check.make(x, path, path.equals("d") ? 2 : 1, 1, 1);
        }
        Check.session(x, 2);
        due(x, "changes 1 2", 0, "new content\nnew d\nnew d/same\nnew d.\nnew kind\nnew mode\nnew same\nnew time\nnew went\n");
        due(x, "changes 2 1", 0, "gone content\ngone d\ngone d/same\ngone d.\ngone kind\ngone mode\ngone same\ngone time\ngone went\n");
        due(x, "changes 1 1", 0, "");
        due(x, "changes 2 2", 0, "");
        x.remove();
        Check.choose(x, "content");
        Check.write(x, "c", 0);
        Check.choose(x, "kind");
        x.remove();
        Check.make(x, "kind", 3, 1, 1);
        Check.choose(x, "mode");
        x.set(2, 1, false);
        Check.choose(x, "time");
        x.set(1, 2, false);
        Check.make(x, "d/\u00ff %", 2, 1, 1);
        Check.session(x, 3);
        due(x, "changes 2 3", 0, "other content\nnew d/%ff%20%25\nother kind\nother mode\nother time\ngone went\n");
        due(x, "changes 3 2", 0, "other content\ngone d/%ff%20%25\nother kind\nother mode\nother time\nnew went\n");
        due(x, "changes 3 now", 0, "");
        changesOfAll();
    }

    /** Two trees of forty entries that have no path in common. */
    private static void changesOfAll() {
        Works x = new Works();
        Check.make(x, "b", 2, 0, 0);
        for (int i = 1; i < 40; i++) {
            Check.make(x, "b/" + (char) ('A' + i), 3, 0, 0);
        }
        Check.session(x, 1);
        Check.choose(x, "b");
        x.remove();
        Check.make(x, "c", 2, 0, 0);
        StringBuilder gone = new StringBuilder("gone b\n");
        StringBuilder comes = new StringBuilder("new c\n");
        for (int i = 1; i < 40; i++) {
            Check.make(x, "c/" + (char) ('A' + i), 3, 0, 0);
            gone.append("gone b/").append((char) ('A' + i)).append('\n');
            comes.append("new c/").append((char) ('A' + i)).append('\n');
        }
        Check.session(x, 2);
        due(x, "changes 1 2", 0, gone.toString() + comes);
        due(x, "changes 2 1", 0, gone.toString().replace("gone", "new") + comes.toString().replace("new", "gone"));
    }

    private static void sessions() {
        Check.sentence("sessions: of each a line, the oldest first: its time, entries, changes, a space between.");
        due(new Works(), "sessions", 0, "");
        due(two(), "sessions", 0, "10 3 2\n20 3 2\n");
        StringBuilder all = new StringBuilder();
        for (int i = 0; i < 30; i++) {
            all.append(10 + i).append(" 1 0\n");
        }
        due(full(), "sessions", 0, all.toString());
        Works x = two();
        Check.session(x, Integer.MAX_VALUE);
        Check.command(x, "prune 20");
        due(x, "sessions", 0, "20 3 2\n2147483647 3 0\n");
        Works y = new Works();
        y.begin(1);
        y.step(3);
        y.crash(1);
        Check.command(y, "check");
        due(y, "sessions", 0, "");
    }

    private static void lines() {
        Check.sentence("Lines end with 10. D, T, PATH have no BLANKS.");
        Works x = two();
        Check.command(x, "sessions");
        Check.due("the last byte", x.outputAt(x.output() - 1), 10);
        Check.due("the first line", x.outputAt(6), 10);
        refused(x, "backup 3 0", 1);
        refused(x, "list 1 0", 2);
        refused(x, "list 1 s", 2);
        refused(x, "list now d/a b", 1);
    }

    private static void command() {
        Check.sentence("The tape, which is empty then, is a COMMAND, which is done: its EXIT code. (THE RESULT changes by restore and"
                + " verify alone.)");
        for (String words : ALL) {
            Works x = two();
            Check.restore(x, "10");
            String before = Check.tree(x, 2);
            Check.due(words, Check.command(x, words), 0);
            Check.due(words + ", the tape", x.about(6), 0);
            boolean changes = words.startsWith("restore") || words.startsWith("verify");
            Check.due(words + ", the result", Check.tree(x, 2).equals(before) ? 0 : 1, changes ? 1 : 0);
        }
        Works x = new Works();
        Check.due("an empty tape", x.command(), 1);
        Check.sentence("IllegalStateException: a session is UNDER WAY, it PRUNES or RECOVERS (the tape and the output stay).");
        for (int state : new int[] {1, 2, 4}) {
            for (String words : ALL) {
                Works y = at(state);
                Check.tape(y, words);
                Check.refusedAndKept(words + " in state " + state, y, y::command, Check.STATE);
                Check.due("the output", Check.output(y), "10 3 2\n20 3 2\n");
            }
            Works y = at(state);
            Check.refusedAndKept("nothing in state " + state, y, y::command, Check.STATE);
            Check.tape(y, "sess");
            Check.refusedAndKept("no command in state " + state, y, y::command, Check.STATE);
            Check.tape(y, "ions");
            Check.finish(y);
            Check.due("the tape is done later", y.command(), 0);
        }
    }

    /** A works in a state, with the output of sessions. */
    private static Works at(int state) {
        Works x = two();
        Check.command(x, "sessions");
        if (state == 1) {
            x.begin(30);
        } else {
            Check.prune(x, "now");
        }
        x.step(1);
        if (state == 4) {
            x.crash(0);
            x.recover();
        }
        Check.due("state", x.about(0), state);
        return x;
    }

    private static void output() {
        Check.sentence("How many bytes of output the latest command() had; 0 ahead of any.");
        Works x = new Works();
        Check.due("ahead of any", x.output(), 0);
        Check.command(x, "sessions");
        Check.due("a command without output", x.output(), 0);
        Check.command(x, "check");
        Check.due("well and 10", x.output(), 5);
        Check.restore(x, "now");
        Check.due("no other call changes it", x.output(), 5);
        Check.session(x, 1);
        Check.prune(x, "now");
        Check.finish(x);
        Check.restore(x, "now");
        Check.due("nor does one that is done", Check.output(x), "well\n");
        Check.command(x, "list now");
        Check.due("of the latest", x.output(), 0);
        Check.command(x, "check");
        Check.command(x, "check it");
        Check.due("of one that is none", x.output(), 0);
        Check.sentence("Byte i of that (0 .. 255); NONE if there is none.");
        Check.due("none", x.outputAt(0), -1);
        Check.command(x, "check");
        int[] bytes = {'w', 'e', 'l', 'l', 10};
        for (int i = 0; i < 5; i++) {
            Check.due("byte " + i, x.outputAt(i), bytes[i]);
        }
        for (int i : new int[] {Integer.MIN_VALUE, -1, 5, 6, 24319, 24320, Integer.MAX_VALUE}) {
            Check.due("byte " + i, x.outputAt(i), -1);
        }
        Check.command(x, "sessions");
        Check.due("the bytes of a longer one", Check.output(x), "1 0 0\n");
        Check.command(x, "check");
        Check.due("a shorter one behind it", x.outputAt(5), -1);
        Check.due("ahead of any, no byte", new Works().outputAt(0), -1);
    }

    public static void main(String[] args) {
        blanks();
        writtenPaths();
        readPaths();
        noCommand();
        noTime();
        brokenOff();
        noSessionTime();
        noPath();
        fullOfSessions();
        withErrors();
        severalCodes();
        atOnce();
        backup();
        pruneAndVerify();
        check();
        restore();
        list();
        changes();
        sessions();
        lines();
        command();
        output();
        Check.close();
    }
}
