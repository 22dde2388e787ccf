import java.util.Random;

/**
 * Many runs of calls, the same ones each time, on the works and on the model of the document. They
 * end well ahead of the 512th call, so that there is room to look at everything.
 */
public final class ModelTest {
    private static final String[] NAMES = {
        "a", "b", "d", "e", "a b", "d%", "d.", "\001", "d\001", "\377", "d-", "...", "X", "0123456789abcdefghijklmn",
    };
    private static final String[] WRONG = {
        "", ".", "..", "/", "a/", "/a", "d//a", "d/.", "d/../a", "a\0", "d\0a", "0123456789abcdefghijklmno", "d/d/d/d/d",
    };
    private static final String[] TIMES = {
        "now", "0B", "1B", "2B", "5B", "0001B", "0s", "1s", "9s", "1m", "1m1s", "1s1m", "0h0D", "1W", "999999W", "7m",
        "1s1s", "s", "B", "", "now ", "Now", "1b", "00001B", "1000000s", "1S", "1s2", "-1", "0000000010", "1B1s", "1s1B",
    };

    private final Random random;
    private final Works works = new Works();
    private final Model model = new Model();
    private final int run;
    private int clock = 0;

    private ModelTest(int run) {
        this.run = run;
        this.random = new Random(run);
    }

    private int below(int n) {
        return random.nextInt(n);
    }

    private String oneOf(String[] texts) {
        return texts[below(texts.length)];
    }

    private String path() {
        if (below(12) == 0) {
            return oneOf(WRONG);
        }
        int few = 1 + below(4);
        StringBuilder s = new StringBuilder(few < 3 ? oneOf(NAMES) : "d");
        for (int depth = below(5); depth > 2; depth--) {
            s.append('/').append(NAMES[below(4)]);
        }
        return s.toString();
    }

    private String time() {
        return switch (below(4)) {
            case 0 -> String.valueOf(below(clock + 3));
            case 1 -> oneOf(TIMES);
            case 2 -> below(6) + "B";
            default -> "now";
        };
    }

    private String written(String path) {
        StringBuilder s = new StringBuilder();
        for (char c : path.toCharArray()) {
            boolean as = c >= 33 && c <= 126 && c != '%' && below(8) > 0 || below(40) == 0;
            s.append(as ? String.valueOf(c) : String.format(below(2) == 0 ? "%%%02x" : "%%%02X", (int) c));
        }
        return s.toString();
    }

    private String blanks() {
        return " ".repeat(1 + below(5) / 4);
    }

    private String commandWords() {
        StringBuilder s = new StringBuilder(below(6) == 0 ? " " : "");
        switch (below(10)) {
            case 0, 1 -> s.append("backup").append(blanks()).append(clock += below(4));
            case 2 -> s.append("prune").append(blanks()).append(below(3) == 0 ? time() : "3B");
            case 3 -> s.append("verify").append(blanks()).append(time());
            case 4 -> s.append("check");
            case 5 -> s.append("sessions");
            case 6 -> s.append("changes").append(blanks()).append(time()).append(blanks()).append(time());
            case 7 -> s.append("restore").append(blanks()).append(time());
            case 8 -> s.append("list").append(blanks()).append(time());
            default -> s.append(oneOf(new String[] {"", "lists", "Check", "backup", "backup 1x", "backup 1234567890",
                "backup now", "prune", "verify", "changes now", "restore", "list", "list now a b", "check it",
                "sessions now", "changes now now now", "backup 1 2", "prune now now", "verify now d"}));
        }
        if ((s.indexOf("restore ") >= 0 || s.indexOf("list ") >= 0) && below(2) == 0) {
            s.append(blanks()).append(written(path()));
        }
        return s.append(below(6) == 0 ? " " : "").toString();
    }

    /** Some calls in a row that belong together. */
    private void turn() {
        switch (below(24)) {
            case 0, 1, 2, 3 -> {
                tape(path());
                int kind = below(30) == 0 ? below(6) - 1 : 1 + below(3);
                int mode = below(30) == 0 ? 4096 - 4097 * below(2) : below(4096);
                int time = below(40) == 0 ? -1 : below(9);
                same("make(" + kind + ", " + mode + ", " + time + ")",
                        Check.of(() -> works.make(kind, mode, time)), Check.of(() -> model.make(kind, mode, time)));
            }
            case 4, 5, 6 -> chooseOne();
            case 7, 8, 9 -> {
                tape("xyz".repeat(below(3) == 0 ? 1 + below(7) : 1).substring(below(3)));
                int at = below(20) == 0 ? new int[] {-1, 1200, 101, Integer.MAX_VALUE, Integer.MIN_VALUE}[below(5)] : below(4);
                same("write(" + at + ")", Check.of(() -> works.write(at)), Check.of(() -> model.write(at)));
            }
            case 10 -> {
                int length = below(6) - 1;
                same("cut(" + length + ")", Check.of(() -> works.cut(length)), Check.of(() -> model.cut(length)));
            }
            case 11, 12 -> {
                int mode = below(30) == 0 ? 4096 : below(3);
                int time = below(30) == 0 ? -1 : below(3);
                boolean locked = below(2) == 0;
                same("set(" + mode + ", " + time + ", " + locked + ")",
                        Check.of(() -> works.set(mode, time, locked)), Check.of(() -> model.set(mode, time, locked)));
            }
            case 13 -> same("remove()", Check.of(works::remove), Check.of(model::remove));
            case 14, 15, 16 -> {
                int time = below(8) == 0 ? clock - below(3) : (clock += 1 + below(40));
                same("begin(" + time + ")", Check.of(() -> works.begin(time)), Check.of(() -> model.begin(time)));
            }
            case 17 -> {
                tape(time());
                if (below(2) == 0) {
                    same("restore()", Check.of(works::restore), Check.of(model::restore));
                } else {
                    same("verify()", Check.of(works::verify), Check.of(model::verify));
                }
            }
            case 18 -> {
                tape(below(3) == 0 ? time() : "2B");
                same("prune()", Check.of(works::prune), Check.of(model::prune));
            }
            case 19 -> same("recover()", Check.of(works::recover), Check.of(model::recover));
            case 20, 21 -> {
                tape(commandWords());
                same("command()", Check.of(works::command), Check.of(model::command));
                output();
            }
            default -> work();
        }
    }

    private void chooseOne() {
        int entries = model.about(3);
        if (entries == 0 || below(8) == 0) {
            tape(path());
        } else {
            int i = below(entries);
            StringBuilder s = new StringBuilder();
            for (int k = 0; k < model.entry(0, i, 4); k++) {
                s.append((char) model.at(0, i, true, k));
            }
            tape(s.toString());
        }
        same("choose()", works.choose(), model.choose());
    }

    private void work() {
        if (model.about(0) == 3 && below(3) > 0) {
            same("recover()", Check.of(works::recover), Check.of(model::recover));
        }
        int n = below(30) == 0 ? 401 - 402 * below(2) : below(3) == 0 ? 400 : below(12);
        same("step(" + n + ")", Check.of(() -> works.step(n)), Check.of(() -> model.step(n)));
        if (below(3) == 0) {
            int kept = below(20) == 0 ? -1 : below(5);
            same("crash(" + kept + ")", Check.of(() -> works.crash(kept)), Check.of(() -> model.crash(kept)));
        }
    }

    private void tape(String text) {
        for (int i = 0; i < text.length() || i == 0; i += 20) {
            int n = Math.min(20, text.length() - i);
            byte[] bytes = new byte[20];
            for (int k = 0; k < n; k++) {
                bytes[k] = (byte) text.charAt(i + k);
            }
            int[] w = new int[5];
            for (int k = 0; k < 5; k++) {
                w[k] = Check.word(bytes, 4 * k);
            }
            works.feed(w[0], w[1], w[2], w[3], w[4]);
            model.feed(w[0], w[1], w[2], w[3], w[4]);
            int much = below(60) == 0 ? 21 - 22 * below(2) : n;
            same("end(" + much + ")", works.end(much), model.end(much));
            if (much != n) {
                same("end(" + n + ")", works.end(n), model.end(n));
            }
        }
    }

    private void same(String call, int got, int want) {
        Check.due("run " + run + " " + call, got, want);
        for (int what = -1; what < 9; what++) {
            Check.due("run " + run + " " + call + " about(" + what + ")", works.about(what), model.about(what));
            Check.due("run " + run + " " + call + " disk(" + what + ")", works.disk(what), model.disk(what));
        }
    }

    /** All that can be seen. */
    private void whole() {
        String at = "run " + run + " ";
        for (int tree = -1; tree < 4; tree++) {
            for (int i = -1; i <= works.about(3 + tree / 2); i++) {
                for (int what = -1; what < 7; what++) {
                    Check.due(at + "entry", works.entry(tree, i, what), model.entry(tree, i, what));
                }
                for (int k = -1; k <= Math.max(0, model.entry(tree, i, 3)); k++) {
                    Check.due(at + "content", works.at(tree, i, false, k), model.at(tree, i, false, k));
                }
                for (int k = -1; k <= Math.max(0, model.entry(tree, i, 4)); k++) {
                    Check.due(at + "path", works.at(tree, i, true, k), model.at(tree, i, true, k));
                }
            }
        }
        for (int i = -1; i <= model.about(4); i++) {
            for (int k = -1; k < 9; k++) {
                Check.due(at + "sum", works.sum(i, k), model.sum(i, k));
            }
        }
        for (int i = -1; i <= model.about(1); i++) {
            for (int what = -1; what < 9; what++) {
                Check.due(at + "session", works.session(i, what), model.session(i, what));
            }
        }
        output();
    }

    private void output() {
        String at = "run " + run + " ";
        Check.due(at + "output", works.output(), model.output());
        for (int i = -1; i <= model.output(); i++) {
            Check.due(at + "outputAt", works.outputAt(i), model.outputAt(i));
        }
    }

    public static void main(String[] args) {
        int runs = args.length > 0 ? Integer.parseInt(args[0]) : 1500;
        for (int run = 0; run < runs; run++) {
            ModelTest test = new ModelTest(run);
            int most = 50 + test.below(400);
            while (test.works.changeCount() < most) {
                test.turn();
            }
            test.whole();
        }
        Check.close();
    }
}
