/** Promises 22 to 24: commands and their output. */
public final class CommandTest {
    private CommandTest() {
    }

    private static void due(Works x, String words, int code, String output) {
        Check.due("22 [" + words + "]", Check.command(x, words), code);
        Check.due("23 [" + words + "]", Check.output(x), output);
        Check.due("22 the tape behind [" + words + "]", x.about(6), 0);
        Check.due("24 -1", x.outputAt(-1), -1);
        Check.due("24 behind the end", x.outputAt(output.length()), -1);
        Check.due("24 far behind", x.outputAt(Integer.MAX_VALUE), -1);
    }

    /** Sessions 10, 20 and 86410. */
    private static Works three() {
        Works x = new Works();
        Check.make(x, "d", 2, 493, 5);
        Check.file(x, "d/a b", "abc");
        Check.file(x, "d.", "");
        due(x, "backup 10", 0, "entries 3\nchanges 2\nnew 3\nother 0\ngone 0\nbytes 3\nerrors 0\n");
        x.remove();
        Check.make(x, "d/%\u00ff~", 3, 511, 8);
        Check.write(x, "to", 0);
        Check.choose(x, "d");
        x.set(7, 0, false);
        due(x, "  backup   000000020 ", 0, "entries 3\nchanges 2\nnew 1\nother 1\ngone 1\nbytes 5\nerrors 0\n");
        Check.choose(x, "d/a b");
        x.set(0, 0, true);
        Check.write(x, "xyz", 0);
        due(x, "backup 86410", 7, "entries 3\nchanges 0\nnew 0\nother 0\ngone 0\nbytes 5\nerrors 1\n");
        return x;
    }

    private static void backup() {
        Works x = three();
        Check.due("22 at rest", x.about(0), 0);
        Check.due("22 operations", x.about(7), 19 + 7 + 5 + 6 + 7);
        String[] none = {"now", "1B", "10x", "x", "-1", "1234567890", "86410", "86409", "0"};
        for (String time : none) {
            due(x, "backup " + time, 4, "");
        }
        due(x, "backup 86411", 7, "entries 3\nchanges 0\nnew 0\nother 0\ngone 0\nbytes 5\nerrors 1\n");
        due(x, "backup 999999999", 7, "entries 3\nchanges 0\nnew 0\nother 0\ngone 0\nbytes 5\nerrors 1\n");
        Works y = new Works();
        for (int i = 0; i < 30; i++) {
            due(y, "backup " + i, 0, "entries 0\nchanges 0\nnew 0\nother 0\ngone 0\nbytes 0\nerrors 0\n");
        }
        due(y, "backup 30", 6, "");
        due(y, "backup 29", 4, "");
        due(y, "backup now", 4, "");
        due(y, "sessions now", 1, "");
        due(y, "prune 29", 0, "sessions 1\n");
        due(y, "backup 30", 0, "entries 0\nchanges 0\nnew 0\nother 0\ngone 0\nbytes 0\nerrors 0\n");
    }

    private static void wrongWords() {
        Works x = three();
        String[] wrong = {"", " ", "   ", "backups 1", "Backup 1", "backup", "backup 1 2", "prune", "prune now now", "verify",
            "verify now d", "check now", "check check", "restore", "restore now d d", "list", "list now d d", "changes",
            "changes now", "changes now now now", "sessions now", "now", "backup\n1", "lis now", "list\0 now"};
        for (String words : wrong) {
            due(x, words, 1, "");
        }
        String[] times = {"prune x", "prune 9", "verify 3B", "restore x", "restore 9 d", "restore 9 nothing", "list 1s1s",
            "list 9 %", "changes now 9", "changes 9 now", "changes x y", "verify 0010000000"};
        for (String words : times) {
            due(x, words, 2, "");
        }
        String[] paths = {"e", "d/", "/d", "d/a", "d/a%2", "d/a%2g", "%", "d%", "d/a\u00ffb", "d\0", "d%00", "d%2f", "d%2f.", ".",
            "D", "d/%%ff~", "d/d/d/d/d", "d.", "d\t"};
        for (String path : paths) {
            due(x, "list now " + path, 5, "");
            due(x, "restore now " + path, 5, "");
        }
        Check.due("22 nothing is done", x.about(4), 0);
        Check.due("22 all sessions are there", x.about(1), 3);
    }

    private static void list() {
        Works x = three();
        Check.restore(x, "20");
        String result = Check.tree(x, 2);
        String now = "d 0007 0 0 d\nl 0777 8 2 d/%25%ff~\nf 0644 7 3 d/a%20b\n";
        due(x, "list now", 0, now);
        due(x, "list 0B d", 0, now);
        due(x, "list 0B %64", 0, now);
        due(x, "list 1D", 0, "d 0755 5 0 d\nf 0644 7 3 d/a%20b\nf 0644 7 0 d.\n");
        due(x, "list 10 d.", 0, "f 0644 7 0 d.\n");
        due(x, "list 10 d", 0, "d 0755 5 0 d\nf 0644 7 3 d/a%20b\n");
        due(x, "list now d%2fa%20b", 0, "f 0644 7 3 d/a%20b\n");
        due(x, "list now d%2Fa%20b", 0, "f 0644 7 3 d/a%20b\n");
        due(x, "list now d/%25%fF%7e", 0, "l 0777 8 2 d/%25%ff~\n");
        due(x, " list  now  d/%25%FF~ ", 0, "l 0777 8 2 d/%25%ff~\n");
        Check.due("22 the result stays", Check.tree(x, 2), result);
    }

    /** Each path is found as it is written, and by no word that only comes near it. */
    private static void pathsAsWords() {
        Works x = new Works();
        String[] paths = {"\037", " ", "!", "$", "%", "0", "9", "J", "Z", "f", "j", "x ", "y\037", "y\u00f2", "~", "\177", "\u00ff"};
        String[] words = {"%1f", "%20", "!", "$", "%25", "0", "9", "J", "Z", "f", "j", "x%20", "y%1f", "y%f2", "~", "%7f", "%ff"};
        StringBuilder all = new StringBuilder();
        for (int i = 0; i < paths.length; i++) {
            Check.make(x, paths[i], 1, 0, i);
            all.append("f 0000 ").append(i).append(" 0 ").append(words[i]).append('\n');
        }
        Check.session(x, 1);
        due(x, "list now", 0, all.toString());
        for (int i = 0; i < paths.length; i++) {
            due(x, "list now " + words[i], 0, "f 0000 " + i + " 0 " + words[i] + "\n");
        }
        String[] others = {"%30", "%39", "%4a", "%4A", "%5a", "%5A", "%66", "%6A", "x%20", "y%F2", "%7e", "%21"};
        String[] same = {"0", "9", "J", "J", "Z", "Z", "f", "j", "x%20", "y%f2", "~", "!"};
        for (int i = 0; i < others.length; i++) {
            Check.due("22 " + others[i], Check.command(x, "list now " + others[i]), 0);
            Check.due("22 " + others[i], Check.output(x).substring(Check.output(x).lastIndexOf(' ') + 1), same[i] + "\n");
        }
        String[] near = {"y%2g", "y%g2", "%2G", "%2@", "%2`", "%3:", "%2/", "%", "%%", "\177", "\u00ff", "\037", "x%2", "x%", "y%f"};
        for (String word : near) {
            Check.command(x, "list now x%20%20");
            due(x, "list now " + word, 5, "");
        }
    }

    private static void restore() {
        Works x = three();
        due(x, "restore now", 0, "entries 3\nbytes 5\n");
        Check.due("22 the result", Check.tree(x, 2), "d 2 7 0 [];d/%\u00ff~ 3 511 8 [to];d/a b 1 420 7 [abc];");
        due(x, "restore 19 d", 0, "entries 2\nbytes 3\n");
        Check.due("22 with its path", Check.tree(x, 2), "d 2 493 5 [];d/a b 1 420 7 [abc];");
        due(x, "restore 1B d/a%20b", 0, "entries 1\nbytes 3\n");
        Check.due("22 whole paths", Check.tree(x, 2), "d/a b 1 420 7 [abc];");
        Check.due("19 of it", x.sum(0, 0), 0xba7816bf);
        due(x, "restore 1B d.", 5, "");
        due(x, "changes 10 now", 0, "other d\nnew d/%25%ff~\ngone d.\n");
        due(x, "sessions", 0, "10 3 2\n20 3 2\n86410 3 0\n");
        due(x, "check", 0, "well\n");
        due(x, "prune 5B", 2, "");
        Check.due("22 the result stays", Check.tree(x, 2), "d/a b 1 420 7 [abc];");
        due(x, "verify 10", 0, "wrong 0\n");
        Check.due("22 verify changes it", Check.tree(x, 2), "d 2 493 5 [];d/a b 1 420 7 [abc];d. 1 420 7 [];");
        due(x, "restore now", 0, "entries 3\nbytes 5\n");
        due(x, "restore 10", 0, "entries 3\nbytes 3\n");
    }

    private static void changes() {
        Works x = three();
        due(x, "changes now 10", 0, "other d\ngone d/%25%ff~\nnew d.\n");
        due(x, "changes 1B now", 0, "");
        due(x, "changes now now", 0, "");
        Check.choose(x, "d/a b");
        x.set(420, 7, false);
        due(x, "backup 90000", 0, "entries 3\nchanges 1\nnew 0\nother 1\ngone 0\nbytes 5\nerrors 0\n");
        due(x, "changes 1B 0B", 0, "other d/a%20b\n");
        x.set(420, 8, false);
        due(x, "backup 90001", 0, "entries 3\nchanges 0\nnew 0\nother 1\ngone 0\nbytes 5\nerrors 0\n");
        due(x, "changes 1B 0B", 0, "other d/a%20b\n");
        due(x, "prune 90000", 0, "sessions 2\n");
        due(x, "sessions", 0, "90000 3 1\n90001 3 0\n");
        due(x, "verify 0B", 0, "wrong 0\n");
        Works y = new Works();
        due(y, "sessions", 0, "");
        due(y, "list now", 2, "");
        due(y, "check", 0, "well\n");
    }

    private static void states() {
        Works x = three();
        due(x, "sessions", 0, "10 3 2\n20 3 2\n86410 3 0\n");
        x.begin(90000);
        Check.due("22 under way", Check.command(x, "check"), Check.STATE);
        Check.due("22 the tape stays", x.about(6), 5);
        Check.due("22 the output stays", x.output(), 24);
        x.step(1);
        x.crash(1);
        Check.due("22 what is on the tape", x.command(), 0);
        Check.due("22 recovered", Check.output(x), "recovered\n");
        Check.due("22 at rest", x.about(0), 0);
        Check.due("22 B is gone", x.disk(4), 0);
        Check.prune(x, "now");
        Check.due("22 it prunes", Check.command(x, "check"), Check.STATE);
        x.step(1);
        x.crash(0);
        x.recover();
        Check.due("22 it recovers", Check.of(x::command), Check.STATE);
        x.crash(0);
        x.choose();
        String[] broken = {"sessions", "backup 90000", "backup x", "backup 1", "prune now", "verify now", "list now",
            "list now nothing", "restore now %", "restore now", "changes now 1B"};
        for (String words : broken) {
            due(x, words, 3, "");
        }
        due(x, "restore 9", 2, "");
        due(x, "restore 9 %", 2, "");
        due(x, "changes now x", 2, "");
        due(x, "sessions now", 1, "");
        due(x, "check it", 1, "");
        due(x, "check", 0, "recovered\n");
        due(x, "check", 0, "well\n");
        due(x, "sessions", 0, "10 3 2\n20 3 2\n86410 3 0\n");
        Works y = new Works();
        y.begin(1);
        y.crash(0);
        due(y, "restore now", 2, "");
        due(y, "backup 1", 3, "");
        due(y, "check", 0, "recovered\n");
        Works z = new Works();
        Check.session(z, Integer.MAX_VALUE);
        due(z, "sessions", 0, "2147483647 0 0\n");
        due(z, "backup 999999999", 4, "");
        due(z, "list 999999999", 2, "");
        due(z, "list 1s", 2, "");
        due(z, "list 0s", 0, "");
    }

    /** The longest output that 512 calls allow: forty long paths, each byte written as three. */
    private static void longest() {
        Works x = new Works();
        StringBuilder list = new StringBuilder();
        StringBuilder gone = new StringBuilder();
        String name = "\u00ff".repeat(23);
        String written = "%ff".repeat(23);
        String path = "";
        String shown = "";
        for (int i = 0; i < 40; i++) {
            int last = 160 + i;
            String tail = String.format("%s%%%02x", written, last);
            Check.make(x, path + name + (char) last, i < 3 ? 2 : 1, 4095, Integer.MAX_VALUE);
            list.append(i < 3 ? "d" : "f").append(" 7777 2147483647 0 ").append(shown).append(tail).append('\n');
            gone.append("gone ").append(shown).append(tail).append('\n');
            path += i < 3 ? name + (char) last + "/" : "";
            shown += i < 3 ? tail + "/" : "";
        }
        Check.session(x, 0);
        due(x, "list now", 0, list.toString());
        Check.choose(x, name + (char) 160);
        x.remove();
        Check.session(x, 1);
        due(x, "changes 0 1", 0, gone.toString());
    }

    private static void output() {
        Works x = new Works();
        Check.due("23 ahead of any", x.output(), 0);
        Check.due("24 ahead of any", x.outputAt(0), -1);
        Check.command(x, "check");
        Check.due("23 of check", x.output(), 5);
        Check.due("24 a byte", x.outputAt(4), 10);
        Check.due("24 none", x.outputAt(5), -1);
        Check.command(x, "x");
        Check.due("23 of none", x.output(), 0);
        Check.due("24 of none", x.outputAt(0), -1);
    }

    public static void main(String[] args) {
        backup();
        wrongWords();
        list();
        pathsAsWords();
        restore();
        changes();
        states();
        longest();
        output();
        Check.close();
    }
}
