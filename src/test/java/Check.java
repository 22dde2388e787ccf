import java.nio.charset.StandardCharsets;

/** What the tests share: calls by texts, and a count of the answers that are not the due ones. */
final class Check {
    static final int STATE = -1001;
    static final int ARGUMENT = -1002;

    private static int wrong = 0;
    private static int looked = 0;

    interface Call {
        int answer();
    }

    interface Act {
        void run();
    }

    private Check() {
    }

    /** A call's answer, or which of the document's exceptions it throws. */
    static int of(Call call) {
        try {
            return call.answer();
        } catch (IllegalStateException e) {
            return STATE;
        } catch (IllegalArgumentException e) {
            return ARGUMENT;
        }
    }

    static int of(Act act) {
        return of(() -> {
            act.run();
            return 0;
        });
    }

    static void due(String what, int got, int want) {
        looked++;
        if (got != want) {
            wrong++;
            System.out.println(what + ": " + got + ", due is " + want);
        }
    }

    static void due(String what, String got, String want) {
        looked++;
        if (!got.equals(want)) {
            wrong++;
            System.out.println(what + ": [" + got + "], due is [" + want + "]");
        }
    }

    /** Brings a text of characters 0 to 255 to the tape. */
    static void tape(MirrorWorks works, String text) {
        for (int i = 0; i < text.length(); i += 20) {
            byte[] bytes = new byte[20];
            int n = Math.min(20, text.length() - i);
            System.arraycopy(text.substring(i, i + n).getBytes(StandardCharsets.ISO_8859_1), 0, bytes, 0, n);
            works.feed(word(bytes, 0), word(bytes, 4), word(bytes, 8), word(bytes, 12), word(bytes, 16));
            works.end(n);
        }
    }

    static int word(byte[] bytes, int i) {
        return (bytes[i] & 255) << 24 | (bytes[i + 1] & 255) << 16 | (bytes[i + 2] & 255) << 8 | bytes[i + 3] & 255;
    }

    static int make(MirrorWorks works, String path, int kind, int mode, int time) {
        tape(works, path);
        return of(() -> works.make(kind, mode, time));
    }

    /** Makes a file with a content, which is chosen then. */
    static void file(MirrorWorks works, String path, String content) {
        make(works, path, 1, 420, 7);
        write(works, content, 0);
    }

    static int choose(MirrorWorks works, String path) {
        tape(works, path);
        return works.choose();
    }

    static int write(MirrorWorks works, String bytes, int at) {
        tape(works, bytes);
        return of(() -> works.write(at));
    }

    static int command(MirrorWorks works, String words) {
        tape(works, words);
        return of(works::command);
    }

    static int restore(MirrorWorks works, String words) {
        tape(works, words);
        return of(works::restore);
    }

    static int verify(MirrorWorks works, String words) {
        tape(works, words);
        return of(works::verify);
    }

    static int prune(MirrorWorks works, String words) {
        tape(works, words);
        return of(works::prune);
    }

    /** Does a whole session. */
    static void session(MirrorWorks works, int time) {
        works.begin(time);
        finish(works);
    }

    static void finish(MirrorWorks works) {
        for (int i = 0; i < 3 && works.about(0) != 0; i++) {
            works.step(400);
        }
    }

    static String output(MirrorWorks works) {
        StringBuilder text = new StringBuilder();
        for (int i = 0; i < works.output(); i++) {
            text.append((char) works.outputAt(i));
        }
        return text.toString();
    }

    static String bytes(MirrorWorks works, int tree, int i, boolean path) {
        StringBuilder text = new StringBuilder();
        for (int k = 0; works.at(tree, i, path, k) != MirrorWorks.NONE; k++) {
            text.append((char) works.at(tree, i, path, k));
        }
        return text.toString();
    }

    /** The files of each sort on the disk: M U I T B C X. */
    static String disk(MirrorWorks works) {
        StringBuilder text = new StringBuilder();
        for (int sort = 0; sort < 7; sort++) {
            text.append(sort == 0 ? "" : " ").append(works.disk(sort));
        }
        return text.toString();
    }

    /** A tree as text: of each entry its path, kind, mode, time and content. */
    static String tree(MirrorWorks works, int tree) {
        StringBuilder text = new StringBuilder();
        for (int i = 0; works.entry(tree, i, 0) != MirrorWorks.NONE; i++) {
            text.append(bytes(works, tree, i, true));
            for (int what = 0; what < 3; what++) {
                text.append(' ').append(works.entry(tree, i, what));
            }
            text.append(" [").append(bytes(works, tree, i, false)).append("];");
        }
        return text.toString();
    }

    static void close() {
        System.out.println(looked + " answers looked at, " + wrong + " not as due");
        if (wrong != 0 || looked == 0) {
            System.exit(1);
        }
    }
}
