import java.io.IOException;
import java.nio.charset.StandardCharsets;
import java.nio.file.Files;
import java.nio.file.Path;
import java.security.MessageDigest;
import java.security.NoSuchAlgorithmException;
import java.util.ArrayList;
import java.util.List;
import java.util.function.Supplier;
import java.util.regex.Matcher;
import java.util.regex.Pattern;
import java.util.stream.Stream;

/**
 * The document from its first line: what it says of the whole works, which no promise says by
 * itself, and that a test quotes each of its sentences.
 */
public final class DocumentTest {
    private static final String TREE_1 = "a 1 420 7 [aa];b 1 420 7 [bb];d 2 493 5 [];d/l 3 511 6 [to];";
    private static final String TREE_2 = "a 1 420 7 [aa];b 1 420 7 [bB];c 1 420 7 [];d 2 493 5 [];d/l 3 511 6 [to];";
    private static final String TREE_3 = "a 2 0 0 [];a/x 1 420 7 [x];b 1 420 7 [bb];c 1 420 7 [];e 3 0 0 [e];";
    private static final String[] TREES = {TREE_1, TREE_2, TREE_3};

    private DocumentTest() {
    }

    /** Sessions 100 and 200 are done, the second with a new file and another one; the source is that of 300. */
    private static Works two() {
        Works x = new Works();
        Check.file(x, "a", "aa");
        Check.file(x, "b", "bb");
        Check.make(x, "d", 2, 493, 5);
        Check.make(x, "d/l", 3, 511, 6);
        Check.write(x, "to", 0);
        Check.session(x, 100);
        Check.file(x, "c", "");
        Check.choose(x, "b");
        Check.write(x, "B", 1);
        Check.session(x, 200);
        Check.write(x, "b", 1);
        Check.choose(x, "a");
        x.remove();
        Check.make(x, "a", 2, 0, 0);
        Check.file(x, "a/x", "x");
        Check.choose(x, "d");
        x.remove();
        Check.make(x, "e", 3, 0, 0);
        Check.write(x, "e", 0);
        return x;
    }

    private static Works three() {
        Works x = two();
        Check.session(x, 300);
        return x;
    }

    private static Works underWay() {
        Works x = two();
        x.begin(300);
        return x;
    }

    private static Works pruning() {
        Works x = three();
        Check.prune(x, "now");
        return x;
    }

    /** Each state that the disk can be in when what has been opened breaks off: how many are done, how many stay. */
    private static List<int[]> breaks(Supplier<Works> opened) {
        List<int[]> breaks = new ArrayList<>();
        int most = 0;
        Works whole = opened.get();
        while (whole.about(0) != 0) {
            Works x = whole.twin();
            int behind = x.crash(Integer.MAX_VALUE);
            for (int kept = 0; kept <= behind; kept++) {
                breaks.add(new int[] {most, kept});
            }
            most += whole.step(1);
        }
        return breaks;
    }

    private static Works broken(Supplier<Works> opened, int[] at) {
        Works x = opened.get();
        x.step(at[0]);
        x.crash(at[1]);
        return x;
    }

    private static void breaksOffAnywhere() {
        Check.sentence("A works that keeps a tree of files mirrored, session by session, on a disk of its own that may break off at"
                + " any operation:");
        anywhere("a session", DocumentTest::underWay);
        anywhere("pruning", DocumentTest::pruning);
    }

    /** It breaks off anywhere, and then what recovers it does, anywhere. */
    private static void anywhere(String what, Supplier<Works> opened) {
        for (int[] first : breaks(opened)) {
            Supplier<Works> recovering = () -> {
                Works x = broken(opened, first);
                x.recover();
                return x;
            };
            String at = what + ", " + first[0] + " done, " + first[1] + " kept";
            Works once = broken(opened, first);
            int sessions = once.about(1);
            String due = isWhole(at, once, sessions);
            for (int[] second : breaks(recovering)) {
                String again = at + ", again " + second[0] + " done, " + second[1] + " kept";
                Check.due(again + ", the disk", isWhole(again, broken(recovering, second), sessions), due);
            }
        }
    }

    /** Recovered, it has the sessions that were committed when it first broke off, each with its tree: its disk. */
    private static String isWhole(String at, Works x, int sessions) {
        Check.due(at + ", sessions", x.about(1), sessions);
        Check.due(at + ", recovers", Check.command(x, "check"), 0);
        Check.due(at + ", sessions that are left", x.about(1), sessions);
        String disk = diskOfUse(x);
        for (int i = 0; i < sessions; i++) {
            int time = x.session(i, 0);
            Check.due(at + ", sums", Check.verify(x, String.valueOf(time)), 0);
            Check.due(at + ", tree of " + time, Check.tree(x, 2), TREES[time / 100 - 1]);
        }
        if (x.session(sessions - 1, 0) < 300) {
            Check.session(x, 300);
            Check.due(at + ", done again", Check.verify(x, "now"), 0);
            Check.due(at + ", tree of what is done again", Check.tree(x, 2), TREE_3);
        }
        return disk;
    }

    private static void leadsBack() {
        Check.sentence("what leads back to each earlier state lies there as files;");
        Works x = new Works();
        List<String> trees = new ArrayList<>();
        int files = 0;
        for (int i = 0; i < 12; i++) {
            if (Check.choose(x, "f" + i % 3) < 0) {
                Check.make(x, "f" + i % 3, 1 + i % 2 * 2, i, i);
            } else if (i % 4 == 3) {
                x.remove();
            }
            Check.choose(x, "f" + (i + 1) % 3);
            Check.of(() -> Check.write(x, "abcdefghijkl".substring(0, x.about(1) + 1), 0));
            Check.session(x, 10 * i);
            files += x.session(i, 2);
            Check.due("files that lead back over " + (i + 1), x.disk(2), files);
            trees.add(Check.tree(x, 0));
            for (int k = 0; k <= i; k++) {
                Check.restore(x, String.valueOf(10 * k));
                Check.due("state " + k + " seen from " + i, Check.tree(x, 2), trees.get(k));
            }
        }
    }

    /** What the disk has without the way back over the oldest session, which some recoveries drop and some do not. */
    private static String diskOfUse(Works x) {
        Works y = x.twin();
        Check.command(y, "prune " + y.session(0, 0));
        return Check.disk(y);
    }

    private static void undoneOrFinished() {
        Check.sentence("sessions that broke off are undone, what was committed is finished;");
        String ahead = diskOfUse(two());
        String behind = diskOfUse(three());
        for (int[] at : breaks(DocumentTest::underWay)) {
            Works x = broken(DocumentTest::underWay, at);
            boolean committed = x.disk(5) == 3;
            Check.command(x, "check");
            Check.due(at[0] + " done, " + at[1] + " kept, disk", diskOfUse(x), committed ? behind : ahead);
            Check.due(at[0] + " done, " + at[1] + " kept, the latest", x.session(x.about(1) - 1, 0), committed ? 300 : 200);
        }
    }

    private static void anyTime() {
        Check.sentence("trees as of any time, by exact words for times;");
        Works x = three();
        for (int time = 0; time <= 310; time += time % 100 == 98 || time % 100 == 99 || time % 100 == 0 ? 1 : 7) {
            String ago = 300 - time + "s";
            if (time < 100) {
                Check.due("as of " + time, Check.restore(x.twin(), String.valueOf(time)), Check.ARGUMENT);
                Check.due(ago, Check.restore(x.twin(), ago), Check.ARGUMENT);
                continue;
            }
            Works y = x.twin();
            Check.restore(y, String.valueOf(time));
            Check.due("as of " + time, Check.tree(y, 2), TREES[Math.min(time, 300) / 100 - 1]);
            if (time <= 300) {
                Works z = x.twin();
                Check.restore(z, ago);
                Check.due(ago, Check.tree(z, 2), TREES[time / 100 - 1]);
            }
        }
    }

    private static void forgotten() {
        Check.sentence("old sessions are forgotten;");
        Works x = three();
        Check.due("pruned", Check.command(x, "prune 200"), 0);
        Check.due("two are left", x.about(1), 2);
        Check.due("the first is forgotten", Check.restore(x, "199"), Check.ARGUMENT);
        Check.restore(x, "200");
        Check.due("the second is not", Check.tree(x, 2), TREE_2);
        Check.due("nothing leads back over it", x.disk(2), x.session(1, 2));
        Check.due("pruned again", Check.command(x, "prune now"), 0);
        Check.restore(x, "now");
        Check.due("the third alone", Check.tree(x, 2), TREE_3);
        Check.due("its disk", Check.disk(x), "4 0 0 1 0 1 0");
    }

    private static void sums() {
        Check.sentence("sums are checked.");
        Works x = three();
        for (String time : new String[] {"100", "200", "300"}) {
            Check.due("verify " + time, Check.verify(x, time), 0);
            for (int i = 0; i < x.about(4); i++) {
                byte[] sum = sha256(Check.bytes(x, 2, i, false));
                for (int k = 0; k < 8; k++) {
                    int due = x.entry(2, i, 0) == 2 ? 0 : Check.word(sum, 4 * k);
                    Check.due("sum(" + i + ", " + k + ") of " + time, x.sum(i, k), due);
                }
            }
        }
    }

    private static byte[] sha256(String text) {
        try {
            return MessageDigest.getInstance("SHA-256").digest(text.getBytes(StandardCharsets.ISO_8859_1));
        } catch (NoSuchAlgorithmException e) {
            throw new AssertionError(e);
        }
    }

    private static void treesOfSessions() {
        Check.sentence("each its TREE: the source as it was when the session began");
        Works x = underWay();
        Check.due("the tape keeps a path", Check.make(x, "new", 1, 0, 0), Check.STATE);
        Check.due("nothing is written", Check.of(() -> x.write(0)), Check.STATE);
        Check.due("nothing goes", Check.of(x::remove), Check.STATE);
        Check.finish(x);
        x.choose();
        Check.choose(x, "b");
        Check.write(x, "changed behind it", 0);
        x.set(1, 1, true);
        Check.choose(x, "a");
        x.remove();
        for (int i = 0; i < 3; i++) {
            Check.restore(x, String.valueOf(100 * i + 100));
            Check.due("session " + i, Check.tree(x, 2), TREES[i]);
        }
    }

    private static void filesOfTheDisk() {
        Check.sentence("THE DISK has files by names, P stands for a path, S for a session's time: M/P the mirror's content, U/P what"
                + " was there ahead of a session, I/S/P what leads back over session S (or says that there was nothing), T/S what"
                + " is told of all entries of S, B/S a session that has begun, C/S one that is committed, X.");
        Works x = new Works();
        Check.due("nothing", Check.disk(x), "0 0 0 0 0 0 0");
        Check.make(x, "d", 2, 0, 0);
        Check.file(x, "f", "f");
        Check.make(x, "l", 3, 0, 0);
        x.begin(1);
        String[] first = {"+B 0 0 0 0 1 0 0", "S", "+I 0 0 1 0 1 0 0", "S", "+X 0 0 1 0 1 0 1", "S", "f 1 0 1 0 1 0 0", "S",
            "+I 1 0 2 0 1 0 0", "S", "+X 1 0 2 0 1 0 1", "S", "l 2 0 2 0 1 0 0", "S", "+T 2 0 2 1 1 0 0", "S",
            "+C 2 0 2 1 0 1 0", "S", "S"};
        follow(x, "0 0 0 0 0 0 0", first);
        Check.choose(x, "f");
        x.cut(0);
        x.begin(2);
        String[] second = {"+B 2 0 2 1 1 1 0", "S", "+I 2 0 3 1 1 1 0", "S", "+U 1 1 3 1 1 1 0", "+X 1 1 3 1 1 1 1", "S",
            "f 2 1 3 1 1 1 0", "S", "+T 2 1 3 2 1 1 0", "S", "+C 2 1 3 2 0 2 0", "S", "-U 2 0 3 2 0 2 0", "S"};
        follow(x, "2 0 2 1 0 1 0", second);
    }

    /** The disk behind each operation; behind a SYNC it is as ahead of it. */
    private static void follow(Works x, String ahead, String[] operations) {
        String disk = ahead;
        for (int i = 0; i < operations.length; i++) {
            disk = operations[i].equals("S") ? disk : operations[i].substring(operations[i].indexOf(' ') + 1);
            x.step(1);
            Check.due("behind operation " + i, Check.disk(x), disk);
        }
        Check.due("at rest", x.about(0), 0);
    }

    private static void operationsCount() {
        Check.sentence("OPERATIONS, each of which counts: WRITE,");
        Works x = two();
        int all = x.about(7);
        int due = x.begin(300);
        all = counted("a session", x, due, all);
        due = Check.prune(x, "200");
        all = counted("pruning", x, due, all);
        x.begin(400);
        x.step(3);
        x.crash(0);
        Check.due("those that were lost, too", x.about(7), all + 3);
        due = x.recover();
        counted("recovery", x, due, all + 3);
    }

    private static int counted(String what, Works x, int due, int before) {
        int all = before;
        Check.due(what + ", none yet", x.about(7), all);
        for (int i = 1; x.about(0) != 0; i++) {
            x.step(1);
            all++;
            Check.due(what + ", in all behind " + i, x.about(7), all);
        }
        Check.due(what + ", as many as were told", all - before, due);
        return all;
    }

    private static void doneCommands() {
        Check.sentence("EXIT codes: 0 done;");
        String[] commands = {"backup 400", "prune 200", "verify now", "check", "restore now", "restore now a", "list now",
            "list now a/x", "changes 100 now", "sessions"};
        for (String command : commands) {
            Works x = three();
            Check.due(command, Check.command(x, command), 0);
            Check.due(command + ", output", x.output() > 0 ? 1 : 0, 1);
        }
        Works x = broken(DocumentTest::underWay, new int[] {3, 1});
        Check.due("check, broken", Check.command(x, "check"), 0);
    }

    private static void none() {
        Check.sentence("The constants: `NONE = -1`: None.");
        Check.due("NONE", MirrorWorks.NONE, -1);
        Works x = new Works();
        Check.due("end", x.end(21), MirrorWorks.NONE);
        Check.due("choose", x.choose(), MirrorWorks.NONE);
        Check.due("entry", x.entry(0, 0, 0), MirrorWorks.NONE);
        Check.due("at", x.at(0, 0, true, 0), MirrorWorks.NONE);
        Check.due("about", x.about(8), MirrorWorks.NONE);
        Check.due("disk", x.disk(7), MirrorWorks.NONE);
        Check.due("outputAt", x.outputAt(0), MirrorWorks.NONE);
        Check.due("session", x.session(0, 0), MirrorWorks.NONE);
    }

    private static void breaksOffWhileItWorks() {
        Check.sentence("The disk BREAKS OFF while something is UNDER WAY, PRUNES or RECOVERS:");
        Works rests = three();
        Check.refused("at rest", rests, () -> rests.crash(0), Check.STATE);
        Works x = underWay();
        Check.due("under way", x.crash(0), 0);
        Check.due("broken", x.about(0), 3);
        Check.refused("broken already", x, () -> x.crash(0), Check.STATE);
        x.recover();
        Check.due("it recovers", x.crash(0), 0);
        Check.due("broken again", x.about(0), 3);
        Works y = pruning();
        Check.due("it prunes", y.crash(0), 0);
        Check.due("broken as well", y.about(0), 3);
    }

    /** What is quoted by tests leaves nothing of the document but the face, headings and what is not promised. */
    private static void everySentence() throws IOException {
        if (!Check.hasDocument()) {
            return;
        }
        String document = Check.document();
        boolean[] quoted = new boolean[document.length()];
        for (String quotation : quotations()) {
            for (int i = document.indexOf(quotation); i >= 0; i = document.indexOf(quotation, i + 1)) {
                for (int k = i; k < i + quotation.length(); k++) {
                    quoted[k] = true;
                }
            }
        }
        StringBuilder left = new StringBuilder();
        for (int i = 0; i < quoted.length; i++) {
            left.append(quoted[i] ? '\n' : document.charAt(i));
        }
        String unquoted = left.toString()
                .replaceAll("## Not promised.*", "")
                .replaceAll("```java .*? ```", "")
                .replaceAll("```text|```", "")
                .replaceAll("# MirrorWorks ## What it is|## The public face|## Terms", "")
                .replaceAll("## Promise \\d+: [A-Za-z ]+? `[^`]*`:", "");
        Check.due("what no test quotes", unquoted.replaceAll("[\\s.,;:]+", " ").trim(), "");
    }

    private static List<String> quotations() throws IOException {
        Pattern call = Pattern.compile("Check\\.sentence\\(((?:\\s*\\+?\\s*\"(?:[^\"\\\\]|\\\\.)*\")+)\\)");
        Pattern text = Pattern.compile("\"((?:[^\"\\\\]|\\\\.)*)\"");
        List<String> quotations = new ArrayList<>();
        try (Stream<Path> files = Files.list(Path.of("src", "test", "java"))) {
            for (Path file : files.filter(f -> f.toString().endsWith("Test.java")).toList()) {
                Matcher calls = call.matcher(Files.readString(file));
                while (calls.find()) {
                    StringBuilder quotation = new StringBuilder();
                    Matcher texts = text.matcher(calls.group(1));
                    while (texts.find()) {
                        quotation.append(texts.group(1).replace("\\\"", "\""));
                    }
                    quotations.add(quotation.toString());
                }
            }
        }
        return quotations;
    }

    public static void main(String[] args) throws IOException {
        breaksOffAnywhere();
        leadsBack();
        undoneOrFinished();
        anyTime();
        forgotten();
        sums();
        treesOfSessions();
        filesOfTheDisk();
        operationsCount();
        doneCommands();
        none();
        breaksOffWhileItWorks();
        everySentence();
        Check.close();
    }
}
