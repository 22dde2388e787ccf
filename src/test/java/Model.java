import java.nio.charset.StandardCharsets;
import java.security.MessageDigest;
import java.security.NoSuchAlgorithmException;
import java.util.ArrayList;
import java.util.Comparator;
import java.util.List;
import java.util.Map;
import java.util.TreeMap;
import java.util.TreeSet;
import java.util.regex.Matcher;
import java.util.regex.Pattern;

/**
 * The document read a second time, as plainly as can be: the disk is a map from names to what is
 * there, each SYNC keeps a copy of it, a break-off goes back to that copy and does the first
 * operations again, and the tree of each session is kept whole beside the disk.
 */
final class Model {
    private static final class E {
        final int kind;
        int mode;
        int time;
        String content;
        boolean locked;

        E(int kind, int mode, int time, String content) {
            this.kind = kind;
            this.mode = mode;
            this.time = time;
            this.content = content;
        }

        E copy() {
            return new E(kind, mode, time, content);
        }

        boolean has() {
            return kind != 2;
        }

        boolean as(E o) {
            return kind == o.kind && mode == o.mode && time == o.time && content.equals(o.content);
        }
    }

    private static final class Told {
        final TreeMap<String, E> tree;
        final int[] facts;

        Told(TreeMap<String, E> tree, int[] facts) {
            this.tree = tree;
            this.facts = facts;
        }
    }

    private record Op(String sort, String a, String b, Object data) {
    }

    private static final Comparator<String> ORDER = (a, b) -> {
        String[] x = a.split("/", -1);
        String[] y = b.split("/", -1);
        for (int i = 0; i < x.length && i < y.length; i++) {
            int c = x[i].compareTo(y[i]);
            if (c != 0) {
                return c;
            }
        }
        return x.length - y.length;
    };

    private String ready = "\0".repeat(20);
    private String tape = "";
    private final TreeMap<String, E> source = new TreeMap<>(ORDER);
    private String chosen = null;
    private TreeMap<String, E> result = new TreeMap<>(ORDER);
    private Map<String, Object> disk = new TreeMap<>();
    private Map<String, Object> synced = new TreeMap<>();
    private List<Op> behind = new ArrayList<>();
    private List<Op> plan = new ArrayList<>();
    private Map<String, Object> planned;
    private int done = 0;
    private int all = 0;
    private int state = 0;
    private String out = "";

    void feed(int a, int b, int c, int d, int e) {
        StringBuilder s = new StringBuilder();
        for (int w : new int[] {a, b, c, d, e}) {
            for (int shift = 24; shift >= 0; shift -= 8) {
                s.append((char) (w >> shift & 255));
            }
        }
        ready = s.toString();
    }

    int end(int n) {
        if (n < 0 || n > 20 || tape.length() + n > 400) {
            return -1;
        }
        tape += ready.substring(0, n);
        ready = "\0".repeat(20);
        return tape.length();
    }

    private String take() {
        String t = tape;
        tape = "";
        return t;
    }

    private static boolean isPath(String p) {
        String[] names = p.split("/", -1);
        if (names.length > 4) {
            return false;
        }
        for (String n : names) {
            if (n.length() < 1 || n.length() > 24 || n.indexOf(0) >= 0 || n.equals(".") || n.equals("..")) {
                return false;
            }
        }
        return true;
    }

    private int total() {
        return source.values().stream().mapToInt(e -> e.content.length()).sum();
    }

    private void idle() {
        if (state == 1) {
            throw new IllegalStateException();
        }
    }

    int make(int kind, int mode, int time) {
        idle();
        String p = take();
        if (kind < 1 || kind > 3 || mode < 0 || mode > 4095 || time < 0 || !isPath(p)) {
            throw new IllegalArgumentException();
        }
        int slash = p.lastIndexOf('/');
        if (source.containsKey(p) || source.size() == 40) {
            throw new IllegalStateException();
        }
        if (slash >= 0) {
            E above = source.get(p.substring(0, slash));
            if (above == null || above.kind != 2) {
                throw new IllegalStateException();
            }
        }
        source.put(p, new E(kind, mode, time, ""));
        chosen = p;
        return source.size();
    }

    int choose() {
        String p = take();
        chosen = source.containsKey(p) ? p : null;
        return chosen == null ? -1 : source.get(p).kind;
    }

    int write(int at) {
        idle();
        String bytes = take();
        E e = chosen == null ? null : source.get(chosen);
        if (e == null || e.kind == 2) {
            throw new IllegalStateException();
        }
        int most = e.kind == 1 ? 1200 : 100;
        long stop = (long) at + bytes.length();
        long longer = Math.max(0, stop - e.content.length());
        if (stop > most || total() + longer > 4000) {
            throw new IllegalStateException();
        }
        if (at < 0 || at > e.content.length()) {
            throw new IllegalArgumentException();
        }
        String rest = stop < e.content.length() ? e.content.substring((int) stop) : "";
        e.content = e.content.substring(0, at) + bytes + rest;
        return e.content.length();
    }

    void cut(int length) {
        idle();
        E e = chosen == null ? null : source.get(chosen);
        if (e == null || e.kind == 2) {
            throw new IllegalStateException();
        }
        if (length < 0 || length > e.content.length()) {
            throw new IllegalArgumentException();
        }
        e.content = e.content.substring(0, length);
    }

    void set(int mode, int time, boolean locked) {
        idle();
        E e = chosen == null ? null : source.get(chosen);
        if (e == null) {
            throw new IllegalStateException();
        }
        if (mode < 0 || mode > 4095 || time < 0 || locked && e.kind != 1) {
            throw new IllegalArgumentException();
        }
        if (locked && source.values().stream().filter(o -> o != e && o.locked).count() == 3) {
            throw new IllegalStateException();
        }
        e.mode = mode;
        e.time = time;
        e.locked = locked;
    }

    int remove() {
        idle();
        if (chosen == null) {
            throw new IllegalStateException();
        }
        String p = chosen;
        int was = source.size();
        source.keySet().removeIf(q -> q.equals(p) || q.startsWith(p + "/"));
        chosen = null;
        return was - source.size();
    }

    // The disk.

    private static void apply(Map<String, Object> on, Op op) {
        switch (op.sort) {
            case "WRITE" -> on.put(op.a, op.data);
            case "RENAME" -> on.put(op.b, on.remove(op.a));
            case "DELETE" -> on.remove(op.a);
            default -> {
            }
        }
    }

    private void plan(String sort, String a, String b, Object data) {
        Op op = new Op(sort, a, b, data);
        plan.add(op);
        apply(planned, op);
    }

    private void sync() {
        plan("SYNC", null, null, null);
    }

    private void open(int newState) {
        plan = new ArrayList<>();
        planned = new TreeMap<>(disk);
        done = 0;
        state = newState;
    }

    /** The names that begin so, by time and then by path as the letter asks. */
    private static List<String> names(Map<String, Object> on, String letter) {
        List<String> names = new ArrayList<>();
        for (String n : on.keySet()) {
            if (n.startsWith(letter + "/")) {
                names.add(n);
            }
        }
        names.sort((a, b) -> {
            if (letter.equals("M") || letter.equals("U")) {
                return ORDER.compare(a.substring(2), b.substring(2));
            }
            int c = Integer.compare(time(a), time(b));
            return c != 0 || !letter.equals("I") ? c : ORDER.compare(path(a), path(b));
        });
        return names;
    }

    private static int time(String name) {
        return Integer.parseInt(name.split("/")[1]);
    }

    /** P of I/S/P. */
    private static String path(String name) {
        return name.substring(name.indexOf('/', 2) + 1);
    }

    private List<Integer> sessions() {
        List<Integer> times = new ArrayList<>();
        for (String n : names(disk, "C")) {
            times.add(time(n));
        }
        return times;
    }

    private int latest() {
        List<Integer> s = sessions();
        return s.isEmpty() ? -1 : s.get(s.size() - 1);
    }

    private Told told(int time) {
        return (Told) disk.get("T/" + time);
    }

    int begin(int time) {
        if (state != 0 || sessions().size() == 30) {
            throw new IllegalStateException();
        }
        if (time < 0 || time <= latest()) {
            throw new IllegalArgumentException();
        }
        TreeMap<String, E> before = latest() < 0 ? new TreeMap<>(ORDER) : told(latest()).tree;
        TreeMap<String, E> now = new TreeMap<>(ORDER);
        int[] facts = new int[8];
        source.forEach((p, e) -> {
            if (!e.locked) {
                now.put(p, e.copy());
                return;
            }
            facts[7]++;
            if (before.containsKey(p) && before.get(p).kind == 1) {
                now.put(p, before.get(p).copy());
            }
        });
        facts[0] = time;
        facts[1] = now.size();
        facts[6] = now.values().stream().mapToInt(e -> e.content.length()).sum();
        TreeSet<String> paths = new TreeSet<>(ORDER);
        paths.addAll(before.keySet());
        paths.addAll(now.keySet());
        open(1);
        plan("WRITE", "B/" + time, null, "");
        sync();
        for (String p : paths) {
            E a = before.get(p);
            E b = now.get(p);
            facts[3] += a == null ? 1 : 0;
            facts[5] += b == null ? 1 : 0;
            facts[4] += a != null && b != null && !a.as(b) ? 1 : 0;
            boolean had = a != null && a.has();
            boolean has = b != null && b.has();
            if (!had && !has || had && has && a.content.equals(b.content)) {
                continue;
            }
            facts[2]++;
            Object old = planned.get("M/" + p);
            plan("WRITE", "I/" + time + "/" + p, null, old == null ? Boolean.FALSE : old);
            sync();
            if (old != null) {
                plan("RENAME", "M/" + p, "U/" + p, null);
            }
            if (has) {
                plan("WRITE", "X", null, b.content);
                sync();
                plan("RENAME", "X", "M/" + p, null);
            }
            sync();
        }
        plan("WRITE", "T/" + time, null, new Told(now, facts));
        sync();
        plan("RENAME", "B/" + time, "C/" + time, null);
        sync();
        for (String u : names(planned, "U")) {
            plan("DELETE", u, null, null);
        }
        sync();
        return plan.size();
    }

    private int prune(int k) {
        open(2);
        List<Integer> ahead = new ArrayList<>(sessions());
        ahead.removeIf(s -> s >= k);
        for (int s : ahead) {
            plan("DELETE", "C/" + s, null, null);
        }
        sync();
        for (int s : ahead) {
            plan("DELETE", "T/" + s, null, null);
        }
        ahead.add(k);
        for (String i : names(planned, "I")) {
            if (ahead.contains(time(i))) {
                plan("DELETE", i, null, null);
            }
        }
        sync();
        return plan.size();
    }

    int prune() {
        rest();
        int k = meaning(take());
        if (k < 0) {
            throw new IllegalArgumentException();
        }
        return prune(k);
    }

    private void rest() {
        if (state != 0) {
            throw new IllegalStateException();
        }
    }

    int recover() {
        if (state != 3) {
            throw new IllegalStateException();
        }
        open(4);
        List<String> begun = names(planned, "B");
        if (!begun.isEmpty()) {
            int s = time(begun.get(0));
            for (String u : names(planned, "U")) {
                plan("RENAME", u, "M/" + u.substring(2), null);
            }
            for (String i : names(planned, "I")) {
                if (time(i) == s && planned.get(i) == Boolean.FALSE && planned.containsKey("M/" + path(i))) {
                    plan("DELETE", "M/" + path(i), null, null);
                }
            }
            sync();
            drop("X");
            for (String i : names(planned, "I")) {
                if (time(i) == s) {
                    drop(i);
                }
            }
            drop("T/" + s);
            sync();
            drop("B/" + s);
        } else {
            for (String u : names(planned, "U")) {
                drop(u);
            }
            drop("X");
            for (String t : names(planned, "T")) {
                if (!planned.containsKey("C/" + time(t))) {
                    drop(t);
                }
            }
            List<String> committed = names(planned, "C");
            for (String i : names(planned, "I")) {
                if (committed.isEmpty() || time(i) <= time(committed.get(0))) {
                    drop(i);
                }
            }
        }
        sync();
        return plan.size();
    }

    private void drop(String name) {
        if (planned.containsKey(name)) {
            plan("DELETE", name, null, null);
        }
    }

    private void working() {
        if (state == 0 || state == 3) {
            throw new IllegalStateException();
        }
    }

    int step(int n) {
        working();
        if (n < 0 || n > 400) {
            throw new IllegalArgumentException();
        }
        return go(n);
    }

    private int go(int n) {
        int count = 0;
        while (count < n && done < plan.size()) {
            Op op = plan.get(done);
            apply(disk, op);
            behind.add(op);
            if (op.sort.equals("SYNC")) {
                synced = new TreeMap<>(disk);
                behind = new ArrayList<>();
            }
            done++;
            all++;
            count++;
        }
        if (done == plan.size()) {
            state = 0;
        }
        return count;
    }

    int crash(int n) {
        working();
        if (n < 0) {
            throw new IllegalArgumentException();
        }
        int kept = Math.min(n, behind.size());
        disk = new TreeMap<>(synced);
        for (int i = 0; i < kept; i++) {
            apply(disk, behind.get(i));
        }
        synced = new TreeMap<>(disk);
        behind = new ArrayList<>();
        state = 3;
        return kept;
    }

    /** The time of the session that is meant, or -1. */
    private int meaning(String words) {
        List<Integer> s = sessions();
        long bound;
        if (words.matches("[0-9]{1,4}B")) {
            int back = Integer.parseInt(words.substring(0, words.length() - 1));
            return back < s.size() ? s.get(s.size() - 1 - back) : -1;
        }
        if (words.equals("now")) {
            bound = Long.MAX_VALUE;
        } else if (words.matches("[0-9]{1,9}")) {
            bound = Long.parseLong(words);
        } else if (words.matches("([0-9]{1,6}[smhDW])+")) {
            bound = latest();
            String units = "smhDW";
            long[] seconds = {1, 60, 3600, 86400, 604800};
            Matcher m = Pattern.compile("([0-9]+)([smhDW])").matcher(words);
            String used = "";
            while (m.find()) {
                if (used.contains(m.group(2))) {
                    return -1;
                }
                used += m.group(2);
                bound -= Long.parseLong(m.group(1)) * seconds[units.indexOf(m.group(2))];
            }
        } else {
            return -1;
        }
        int meant = -1;
        for (int t : s) {
            meant = t <= bound ? t : meant;
        }
        return meant;
    }

    int restore() {
        rest();
        int s = meaning(take());
        if (s < 0) {
            throw new IllegalArgumentException();
        }
        result = told(s).tree;
        return result.size();
    }

    int verify() {
        restore();
        return 0;
    }

    private Map.Entry<String, E> of(int tree, int i) {
        TreeMap<String, E> t = tree == 0 ? source : tree == 2 ? result : new TreeMap<>();
        int k = 0;
        for (Map.Entry<String, E> e : t.entrySet()) {
            if (k++ == i) {
                return e;
            }
        }
        return null;
    }

    int entry(int tree, int i, int what) {
        Map.Entry<String, E> e = of(tree, i);
        if (e == null || what < 0 || what > 5) {
            return -1;
        }
        E v = e.getValue();
        return new int[] {v.kind, v.mode, v.time, v.content.length(), e.getKey().length(), v.locked ? 1 : 0}[what];
    }

    int at(int tree, int i, boolean path, int k) {
        Map.Entry<String, E> e = of(tree, i);
        if (e == null) {
            return -1;
        }
        String s = path ? e.getKey() : e.getValue().content;
        return k < 0 || k >= s.length() ? -1 : s.charAt(k);
    }

    int sum(int i, int k) {
        Map.Entry<String, E> e = of(2, i);
        if (e == null || !e.getValue().has() || k < 0 || k > 7) {
            return 0;
        }
        try {
            byte[] bytes = e.getValue().content.getBytes(StandardCharsets.ISO_8859_1);
            return Check.word(MessageDigest.getInstance("SHA-256").digest(bytes), 4 * k);
        } catch (NoSuchAlgorithmException x) {
            throw new AssertionError(x);
        }
    }

    int about(int what) {
        return switch (what) {
            case 0 -> state;
            case 1 -> sessions().size();
            case 2 -> state == 0 || state == 3 ? 0 : done;
            case 3 -> source.size();
            case 4 -> result.size();
            case 5 -> total();
            case 6 -> tape.length();
            case 7 -> all;
            default -> -1;
        };
    }

    int disk(int sort) {
        if (sort < 0 || sort > 6) {
            return -1;
        }
        return sort == 6 ? disk.containsKey("X") ? 1 : 0 : names(disk, "MUITBC".substring(sort, sort + 1)).size();
    }

    int session(int i, int what) {
        List<Integer> s = sessions();
        return i < 0 || i >= s.size() || what < 0 || what > 7 ? -1 : told(s.get(i)).facts[what];
    }

    int output() {
        return out.length();
    }

    int outputAt(int i) {
        return i < 0 || i >= out.length() ? -1 : out.charAt(i);
    }

    int command() {
        if (state != 0 && state != 3) {
            throw new IllegalStateException();
        }
        List<String> words = new ArrayList<>(List.of(take().split(" ")));
        words.removeIf(String::isEmpty);
        out = "";
        TreeSet<Integer> codes = codes(words);
        return codes.isEmpty() ? obey(words) : codes.first();
    }

    /** All that stands against a command. */
    private TreeSet<Integer> codes(List<String> words) {
        TreeSet<Integer> codes = new TreeSet<>();
        String shape = words.isEmpty() ? "" : words.get(0) + (words.size() - 1);
        if (!List.of("backup1", "prune1", "verify1", "check0", "restore1", "restore2", "list1", "list2",
                "changes2", "sessions0").contains(shape)) {
            codes.add(1);
            return codes;
        }
        if (state == 3 && !shape.equals("check0")) {
            codes.add(3);
        }
        if (shape.equals("backup1")) {
            if (!words.get(1).matches("[0-9]{1,9}") || Integer.parseInt(words.get(1)) <= latest()) {
                codes.add(4);
            }
            if (sessions().size() == 30) {
                codes.add(6);
            }
        } else if (words.size() > 1) {
            int t = meaning(words.get(1));
            if (t < 0 || shape.equals("changes2") && meaning(words.get(2)) < 0) {
                codes.add(2);
            } else if (words.size() == 3 && !shape.equals("changes2")) {
                String p = read(words.get(2));
                if (p == null || !told(t).tree.containsKey(p)) {
                    codes.add(5);
                }
            }
        }
        return codes;
    }

    private static String read(String word) {
        if (!word.matches("([!-$&-~]|%[0-9a-fA-F]{2})*")) {
            return null;
        }
        StringBuilder s = new StringBuilder();
        for (int i = 0; i < word.length(); i++) {
            if (word.charAt(i) == '%') {
                s.append((char) Integer.parseInt(word.substring(i + 1, i + 3), 16));
                i += 2;
            } else {
                s.append(word.charAt(i));
            }
        }
        return isPath(s.toString()) ? s.toString() : null;
    }

    private static String written(String path) {
        StringBuilder s = new StringBuilder();
        for (char c : path.toCharArray()) {
            s.append(c < 33 || c > 126 || c == '%' ? String.format("%%%02x", (int) c) : String.valueOf(c));
        }
        return s.toString();
    }

    private int obey(List<String> words) {
        int t = words.size() > 1 ? meaning(words.get(1)) : -1;
        StringBuilder s = new StringBuilder();
        int code = 0;
        switch (words.get(0)) {
            case "backup" -> {
                begin(Integer.parseInt(words.get(1)));
                go(plan.size());
                int[] f = told(latest()).facts;
                s.append(String.format("entries %d\nchanges %d\nnew %d\nother %d\ngone %d\nbytes %d\nerrors %d\n",
                        f[1], f[2], f[3], f[4], f[5], f[6], f[7]));
                code = f[7] > 0 ? 7 : 0;
            }
            case "prune" -> {
                prune(t);
                go(plan.size());
                s.append("sessions ").append(sessions().size()).append('\n');
            }
            case "verify" -> {
                result = told(t).tree;
                s.append("wrong 0\n");
            }
            case "check" -> {
                s.append(state == 3 ? "recovered\n" : "well\n");
                if (state == 3) {
                    recover();
                    go(plan.size());
                }
            }
            case "sessions" -> {
                for (int i : sessions()) {
                    s.append(i).append(' ').append(told(i).facts[1]).append(' ').append(told(i).facts[2]).append('\n');
                }
            }
            case "changes" -> changes(told(t).tree, told(meaning(words.get(2))).tree, s);
            default -> {
                TreeMap<String, E> tree = new TreeMap<>(ORDER);
                String top = words.size() == 3 ? read(words.get(2)) : null;
                told(t).tree.forEach((p, e) -> {
                    if (top == null || p.equals(top) || p.startsWith(top + "/")) {
                        tree.put(p, e);
                    }
                });
                if (words.get(0).equals("restore")) {
                    result = tree;
                    int bytes = tree.values().stream().mapToInt(e -> e.content.length()).sum();
                    s.append(String.format("entries %d\nbytes %d\n", tree.size(), bytes));
                } else {
                    tree.forEach((p, e) -> s.append(String.format("%c %04o %d %d %s\n",
                            "fdl".charAt(e.kind - 1), e.mode, e.time, e.content.length(), written(p))));
                }
            }
        }
        out = s.toString();
        return code;
    }

    private static void changes(TreeMap<String, E> a, TreeMap<String, E> b, StringBuilder s) {
        TreeSet<String> paths = new TreeSet<>(ORDER);
        paths.addAll(a.keySet());
        paths.addAll(b.keySet());
        for (String p : paths) {
            String word = !a.containsKey(p) ? "new " : !b.containsKey(p) ? "gone "
                    : a.get(p).as(b.get(p)) ? "" : "other ";
            if (!word.isEmpty()) {
                s.append(word).append(written(p)).append('\n');
            }
        }
    }
}
