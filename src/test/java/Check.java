import java.io.IOException;
import java.nio.charset.StandardCharsets;
import java.nio.file.Files;
import java.nio.file.Path;

/** What the tests share: calls by texts, and a count of the answers that are not the due ones. */
final class Check {
    static final int STATE = -1001;
    static final int ARGUMENT = -1002;

    private static final Path DOCUMENT = Path.of("..", "shared", "DOC.md");

    private static int wrong = 0;
    private static int looked = 0;
    private static int sentences = 0;
    private static String about = "";
    private static String document = null;

    interface Call {
        int answer();
    }

    interface Act {
        void run();
    }

    private Check() {
    }

    /**
     * The answers from here on are about a sentence of the document, which must stand there as it is
     * quoted, if the document is at hand.
     */
    static void sentence(String quoted) {
        sentences++;
        about = "\"" + quoted + "\" ";
        if (hasDocument()) {
            due("it stands in the document", document().contains(quoted) ? 1 : 0, 1);
        }
    }

    static boolean hasDocument() {
        return Files.exists(DOCUMENT);
    }

    /** The whole document, each run of blanks and line ends as one blank. */
    static String document() {
        try {
            if (document == null) {
                document = Files.readString(DOCUMENT).replaceAll("\\s+", " ");
            }
            return document;
        } catch (IOException e) {
            throw new AssertionError(e);
        }
    }

    /** A call's answer, or which of the document's exceptions it throws. */
    static int of(Call call) {
        try {
            return call.answer();
        } catch (IllegalStateException e) {
            return STATE;
        } catch (IllegalArgumentException e) {
            return ARGUMENT;
        }
    }

    static int of(Act act) {
        return of(() -> {
            act.run();
            return 0;
        });
    }

    static void due(String what, int got, int want) {
        looked++;
        if (got != want) {
            wrong++;
            System.out.println(about + what + ": " + got + ", due is " + want);
        }
    }

    static void due(String what, String got, String want) {
        looked++;
        if (!got.equals(want)) {
            wrong++;
            System.out.println(about + what + ": [" + got + "], due is [" + want + "]");
        }
    }

    /** A call that is refused: it answers so, and all that can be seen but the tape is as it was. */
    static void refused(String what, Works works, Call call, int due) {
        String before = seen(works);
        due(what, of(call), due);
        due(what + ": what is seen", seen(works), before);
    }

    /** Refused with an exception; the tape is empty then. */
    static void refusedAndTaken(String what, Works works, Call call, int due) {
        refused(what, works, call, due);
        due(what + ": the tape", works.about(6), 0);
    }

    /** Refused with an exception; the tape has as many bytes as ahead of it. */
    static void refusedAndKept(String what, Works works, Call call, int due) {
        int bytes = works.about(6);
        refused(what, works, call, due);
        due(what + ": the tape", works.about(6), bytes);
    }

    /** All that can be seen of the works, but for the tape. */
    static String seen(Works works) {
        StringBuilder text = new StringBuilder();
        for (int what = 0; what < 8; what++) {
            text.append(what == 6 ? "" : works.about(what) + " ");
        }
        text.append("| ").append(disk(works)).append(" | ");
        text.append(tree(works, 0)).append(" | ").append(locked(works)).append(" | ").append(tree(works, 2)).append(" | ");
        for (int i = 0; i < works.about(1); i++) {
            text.append(facts(works, i)).append(';');
        }
        return text.append(" | ").append(output(works)).append(" | ").append(chosen(works)).toString();
    }

    /** The facts of a session, 0 to 7. */
    static String facts(Works works, int i) {
        StringBuilder text = new StringBuilder();
        for (int what = 0; what < 8; what++) {
            text.append(what == 0 ? "" : " ").append(works.session(i, what));
        }
        return text.toString();
    }

    /** Which entries of the source are locked, each as 1 or 0. */
    static String locked(Works works) {
        StringBuilder text = new StringBuilder();
        for (int i = 0; i < works.about(3); i++) {
            text.append(works.entry(0, i, 5));
        }
        return text.toString();
    }

    /** The path of the chosen entry, or nothing: a twin is asked, whose session may be broken off for it. */
    static String chosen(Works works) {
        Works twin = works.twin();
        if (twin.about(0) == 1) {
            twin.crash(0);
        }
        if (of(() -> twin.set(3210, 1234567890, false)) == STATE) {
            return "";
        }
        for (int i = 0; i < twin.about(3); i++) {
            if (twin.entry(0, i, 1) == 3210 && twin.entry(0, i, 2) == 1234567890) {
                return bytes(twin, 0, i, true);
            }
        }
        return "?";
    }

    /** Brings bytes 0 to the tape, in few calls. */
    static void zeros(Works works, int count) {
        for (int left = count; left > 0; left -= 20) {
            works.end(Math.min(20, left));
        }
    }

    /** Makes an entry with as many bytes 0 as its content, which is chosen then. */
    static void zeroFile(Works works, String path, int kind, int count) {
        make(works, path, kind, 420, 7);
        for (int at = 0; at < count; at += 400) {
            zeros(works, Math.min(400, count - at));
            works.write(at);
        }
    }

    /** Brings a text of characters 0 to 255 to the tape. */
    static void tape(Works works, String text) {
        for (int i = 0; i < text.length(); i += 20) {
            byte[] bytes = new byte[20];
            int n = Math.min(20, text.length() - i);
            System.arraycopy(text.substring(i, i + n).getBytes(StandardCharsets.ISO_8859_1), 0, bytes, 0, n);
            works.feed(word(bytes, 0), word(bytes, 4), word(bytes, 8), word(bytes, 12), word(bytes, 16));
            works.end(n);
        }
    }

    static int word(byte[] bytes, int i) {
        return (bytes[i] & 255) << 24 | (bytes[i + 1] & 255) << 16 | (bytes[i + 2] & 255) << 8 | bytes[i + 3] & 255;
    }

    static int make(Works works, String path, int kind, int mode, int time) {
        tape(works, path);
        return of(() -> works.make(kind, mode, time));
    }

    /** Makes a file with a content, which is chosen then. */
    static void file(Works works, String path, String content) {
        make(works, path, 1, 420, 7);
        write(works, content, 0);
    }

    static int choose(Works works, String path) {
        tape(works, path);
        return works.choose();
    }

    static int write(Works works, String bytes, int at) {
        tape(works, bytes);
        return of(() -> works.write(at));
    }

    static int command(Works works, String words) {
        tape(works, words);
        return of(works::command);
    }

    static int restore(Works works, String words) {
        tape(works, words);
        return of(works::restore);
    }

    static int verify(Works works, String words) {
        tape(works, words);
        return of(works::verify);
    }

    static int prune(Works works, String words) {
        tape(works, words);
        return of(works::prune);
    }

    /** Does a whole session. */
    static void session(Works works, int time) {
        works.begin(time);
        finish(works);
    }

    static void finish(Works works) {
        for (int i = 0; i < 3 && works.about(0) != 0; i++) {
            works.step(400);
        }
    }

    static String output(Works works) {
        StringBuilder text = new StringBuilder();
        int length = works.output();
        for (int i = 0; i < length; i++) {
            text.append((char) works.outputAt(i));
        }
        return text.toString();
    }

    static String bytes(Works works, int tree, int i, boolean path) {
        StringBuilder text = new StringBuilder();
        int next = works.at(tree, i, path, 0);
        for (int k = 1; next != MirrorWorks.NONE; k++) {
            text.append((char) next);
            next = works.at(tree, i, path, k);
        }
        return text.toString();
    }

    /** The files of each sort on the disk: M U I T B C X. */
    static String disk(Works works) {
        StringBuilder text = new StringBuilder();
        for (int sort = 0; sort < 7; sort++) {
            text.append(sort == 0 ? "" : " ").append(works.disk(sort));
        }
        return text.toString();
    }

    /** A tree as text: of each entry its path, kind, mode, time and content. */
    static String tree(Works works, int tree) {
        StringBuilder text = new StringBuilder();
        for (int i = 0; works.entry(tree, i, 0) != MirrorWorks.NONE; i++) {
            text.append(bytes(works, tree, i, true));
            for (int what = 0; what < 3; what++) {
                text.append(' ').append(works.entry(tree, i, what));
            }
            text.append(" [").append(bytes(works, tree, i, false)).append("];");
        }
        return text.toString();
    }

    static void close() {
        String of = sentences == 0 ? "" : " of " + sentences + " sentences";
        System.out.println(looked + " answers" + of + " looked at, " + wrong + " not as due");
        if (wrong != 0 || looked == 0) {
            System.exit(1);
        }
    }
}
