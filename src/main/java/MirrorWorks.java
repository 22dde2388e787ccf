import java.util.ArrayList;
import java.util.Arrays;

/**
 * A works that keeps a tree of files mirrored, session by session, on a disk of its own that may
 * break off at any operation.
 */
public final class MirrorWorks {
    public static final int NONE = -1;

    private static final int FILE = 1;
    private static final int DIRECTORY = 2;
    private static final int LINK = 3;

    private static final int AT_REST = 0;
    private static final int UNDER_WAY = 1;
    private static final int PRUNES = 2;
    private static final int BROKEN = 3;
    private static final int RECOVERS = 4;

    // The sorts of files on the disk, as disk() numbers them.
    private static final int MIRROR = 0;
    private static final int SET_ASIDE = 1;
    private static final int WAY_BACK = 2;
    private static final int TOLD = 3;
    private static final int BEGUN = 4;
    private static final int COMMITTED = 5;
    private static final int NEXT = 6;
    private static final int SORTS = 7;

    // The facts of a session, as session() numbers them.
    private static final int AT_TIME = 0;
    private static final int ENTRIES = 1;
    private static final int CHANGES = 2;
    private static final int NEW = 3;
    private static final int OTHER = 4;
    private static final int GONE = 5;
    private static final int BYTES = 6;
    private static final int ERRORS = 7;
    private static final int FACTS = 8;

    private static final int MOST_READY = 20;
    private static final int MOST_TAPE = 400;
    private static final int MOST_ENTRIES = 40;
    private static final int MOST_LOCKED = 3;
    private static final int MOST_MODE = 4095;
    private static final int MOST_FILE_BYTES = 1200;
    private static final int MOST_LINK_BYTES = 100;
    private static final int MOST_SOURCE_BYTES = 4000;
    private static final int MOST_SESSIONS = 30;
    private static final int LATEST_OF_ALL = 2147483647;
    private static final int MOST_STEPS = 400;
    private static final int MOST_NAME = 24;
    private static final int MOST_NAMES = 4;
    private static final int MOST_WORDS = 3;
    // The longest output is that of changes: each path of two trees, with every byte as three.
    private static final int MOST_PATH = MOST_NAMES * MOST_NAME + MOST_NAMES - 1;
    private static final int MOST_OUTPUT = 2 * MOST_ENTRIES * (7 + 3 * MOST_PATH);

    private static final int SUM_WORDS = 8;

    private static final int DONE = 0;
    private static final int NO_COMMAND = 1;
    private static final int NO_TIME = 2;
    private static final int IS_BROKEN = 3;
    private static final int NO_SESSION_TIME = 4;
    private static final int NO_PATH = 5;
    private static final int FULL = 6;
    private static final int DONE_WITH_ERRORS = 7;

    private static final int BLANK = 32;
    private static final int LINE_END = 10;
    private static final byte[] NO_BYTES = {};

    private final byte[] ready = new byte[MOST_READY];
    private final byte[] tape = new byte[MOST_TAPE];
    private int tapeLength = 0;

    private final Tree source = new Tree(MOST_ENTRIES);
    private int chosen = NONE;
    private Tree result = new Tree(MOST_ENTRIES);
    // Two trees to work with, so that no call makes one of its own.
    private Tree first = new Tree(MOST_ENTRIES);
    private final Tree second = new Tree(MOST_ENTRIES);

    private final Drive drive = new Drive();
    private final Plan plan = new Plan(drive);
    private int state = AT_REST;

    private final Sums sums = new Sums();
    private final Words words = new Words();
    private final Text text = new Text();

    public MirrorWorks() {
    }

    public void feed(int a, int b, int c, int d, int e) {
        putReady(0, a);
        putReady(4, b);
        putReady(8, c);
        putReady(12, d);
        putReady(16, e);
    }

    private void putReady(int place, int word) {
        for (int i = 0; i < 4; i++) {
            ready[place + i] = (byte) (word >>> 24 - 8 * i);
        }
    }

    public int end(int n) {
        if (n < 0 || n > MOST_READY || tapeLength + n > MOST_TAPE) {
            return NONE;
        }
        System.arraycopy(ready, 0, tape, tapeLength, n);
        tapeLength += n;
        Arrays.fill(ready, (byte) 0);
        return tapeLength;
    }

    private byte[] takeTape() {
        byte[] taken = Arrays.copyOf(tape, tapeLength);
        tapeLength = 0;
        return taken;
    }

    public int make(int kind, int mode, int time)
            throws IllegalArgumentException, IllegalStateException {
        if (state == UNDER_WAY) {
            throw new IllegalStateException();
        }
        byte[] path = takeTape();
        if (kind < FILE || kind > LINK || !areModeAndTime(mode, time) || !Bytes.isPath(path)) {
            throw new IllegalArgumentException();
        }
        if (source.find(path) != NONE || !hasDirectory(path)) {
            throw new IllegalStateException();
        }
        int place = source.place(path);
        Entry made = source.grow(place);
        if (made == null) {
            throw new IllegalStateException();
        }
        made.path = path;
        made.kind = kind;
        made.mode = mode;
        made.time = time;
        made.content = kind == DIRECTORY ? null : NO_BYTES;
        chosen = place;
        return source.size;
    }

    private static boolean areModeAndTime(int mode, int time) {
        return mode >= 0 && mode <= MOST_MODE && time >= 0;
    }

    private boolean hasDirectory(byte[] path) {
        int length = Bytes.directoryLength(path);
        if (length == 0) {
            return true;
        }
        Entry above = source.row(source.find(Arrays.copyOf(path, length)));
        return above != null && above.kind == DIRECTORY;
    }

    public int choose() {
        byte[] path = takeTape();
        chosen = Bytes.isPath(path) ? source.find(path) : NONE;
        Entry entry = source.row(chosen);
        return entry == null ? NONE : entry.kind;
    }

    public int write(int at) throws IllegalArgumentException, IllegalStateException {
        if (state == UNDER_WAY) {
            throw new IllegalStateException();
        }
        int count = tapeLength;
        tapeLength = 0;
        Entry entry = source.row(chosen);
        if (entry == null || entry.content == null) {
            throw new IllegalStateException();
        }
        int length = entry.content.length;
        long needed = Math.max((long) length, (long) at + count);
        if (needed > mostBytes(entry.kind)
                || source.bytes() - length + needed > MOST_SOURCE_BYTES) {
            throw new IllegalStateException();
        }
        if (at < 0 || at > length) {
            throw new IllegalArgumentException();
        }
        if (count > 0) {
            byte[] content = Arrays.copyOf(entry.content, (int) needed);
            System.arraycopy(tape, 0, content, at, count);
            entry.replaceContent(content);
        }
        return entry.content.length;
    }

    private static int mostBytes(int kind) {
        return kind == LINK ? MOST_LINK_BYTES : MOST_FILE_BYTES;
    }

    public void cut(int length) throws IllegalArgumentException, IllegalStateException {
        Entry entry = source.row(chosen);
        if (state == UNDER_WAY || entry == null || entry.content == null) {
            throw new IllegalStateException();
        }
        if (length < 0 || length > entry.content.length) {
            throw new IllegalArgumentException();
        }
        entry.replaceContent(Arrays.copyOf(entry.content, length));
    }

    public void set(int mode, int time, boolean locked)
            throws IllegalArgumentException, IllegalStateException {
        Entry entry = source.row(chosen);
        if (state == UNDER_WAY || entry == null) {
            throw new IllegalStateException();
        }
        if (!areModeAndTime(mode, time) || locked && entry.kind != FILE) {
            throw new IllegalArgumentException();
        }
        if (locked && !entry.locked && source.lockedCount() >= MOST_LOCKED) {
            throw new IllegalStateException();
        }
        entry.mode = mode;
        entry.time = time;
        entry.locked = locked;
    }

    public int remove() throws IllegalStateException {
        Entry entry = source.row(chosen);
        if (state == UNDER_WAY || entry == null) {
            throw new IllegalStateException();
        }
        chosen = NONE;
        return source.drop(entry.path, true);
    }

    public int begin(int time) throws IllegalArgumentException, IllegalStateException {
        if (state != AT_REST || drive.sessions() >= MOST_SESSIONS) {
            throw new IllegalStateException();
        }
        if (time < 0 || time <= drive.latestTime()) {
            throw new IllegalArgumentException();
        }
        openSession(time);
        return plan.length();
    }

    private void openSession(int time) {
        first.size = 0;
        if (drive.sessions() > 0) {
            drive.readTree(drive.latestTime(), first);
        }
        int[] facts = new int[FACTS];
        facts[AT_TIME] = time;
        facts[ERRORS] = gatherTree(first, second);
        facts[ENTRIES] = second.size;
        facts[BYTES] = second.bytes();
        countDifferences(facts);
        plan.planSession(new DiskFile(time, second.withoutContent(), facts), first, second);
        state = UNDER_WAY;
    }

    /** Makes the tree of a session that begins: how many of its files were locked. */
    private int gatherTree(Tree before, Tree now) {
        int errors = 0;
        now.size = 0;
        for (int i = 0; i < source.size; i++) {
            Entry entry = source.row(i);
            if (entry == null) {
                continue;
            }
            if (entry.locked) {
                errors++;
                entry = before.row(before.find(entry.path));
                if (entry == null || entry.kind != FILE) {
                    continue;
                }
            } else if (entry.content != null && entry.sum == null) {
                entry.sum = sums.sumOf(entry.content);
            }
            now.append(entry);
        }
        return errors;
    }

    private void countDifferences(int[] facts) {
        Walk walk = new Walk(first, second);
        for (int n = 0; n < 2 * MOST_ENTRIES && walk.next(); n++) {
            int difference = walk.difference();
            if (difference != NONE) {
                facts[difference]++;
            }
        }
    }

    public int prune() throws IllegalArgumentException, IllegalStateException {
        if (state != AT_REST) {
            throw new IllegalStateException();
        }
        int session = takeTime();
        if (session == NONE) {
            throw new IllegalArgumentException();
        }
        openPruning(session);
        return plan.length();
    }

    private void openPruning(int session) {
        plan.planPruning(session);
        state = PRUNES;
    }

    /** Which session the whole tape, which is empty then, means as a time. */
    private int takeTime() {
        words.takeWhole(tape, tapeLength);
        tapeLength = 0;
        return words.meaning(0, drive);
    }

    public int recover() throws IllegalStateException {
        if (state != BROKEN) {
            throw new IllegalStateException();
        }
        openRecovery();
        return plan.length();
    }

    private void openRecovery() {
        plan.planRecovery();
        state = RECOVERS;
    }

    private boolean isWorking() {
        return state == UNDER_WAY || state == PRUNES || state == RECOVERS;
    }

    public int step(int n) throws IllegalStateException, IllegalArgumentException {
        if (!isWorking()) {
            throw new IllegalStateException();
        }
        if (n < 0 || n > MOST_STEPS) {
            throw new IllegalArgumentException();
        }
        return advance(n);
    }

    private int advance(int n) {
        int count = plan.perform(n);
        if (plan.isOver()) {
            state = AT_REST;
        }
        return count;
    }

    public int crash(int n) throws IllegalStateException, IllegalArgumentException {
        if (!isWorking()) {
            throw new IllegalStateException();
        }
        if (n < 0) {
            throw new IllegalArgumentException();
        }
        state = BROKEN;
        return plan.breakOff(n);
    }

    public int restore() throws IllegalArgumentException, IllegalStateException {
        readTreeOfTape();
        return result.size;
    }

    public int verify() throws IllegalArgumentException, IllegalStateException {
        readTreeOfTape();
        return countWrongSums();
    }

    private void readTreeOfTape() throws IllegalArgumentException, IllegalStateException {
        if (state != AT_REST) {
            throw new IllegalStateException();
        }
        int session = takeTime();
        if (session == NONE) {
            throw new IllegalArgumentException();
        }
        drive.readTree(drive.sessionTime(session), result);
    }

    private int countWrongSums() {
        int wrong = 0;
        for (int i = 0; i < result.size; i++) {
            Entry entry = result.row(i);
            if (entry != null && entry.kind != DIRECTORY && !sums.isSum(entry.content, entry.sum)) {
                wrong++;
            }
        }
        return wrong;
    }

    public int entry(int tree, int i, int what) {
        Entry entry = entryOf(tree, i);
        if (entry == null) {
            return NONE;
        }
        switch (what) {
            case 0:
                return entry.kind;
            case 1:
                return entry.mode;
            case 2:
                return entry.time;
            case 3:
                return entry.length();
            case 4:
                return entry.path.length;
            case 5:
                return entry.locked ? 1 : 0;
            default:
                return NONE;
        }
    }

    private Entry entryOf(int tree, int i) {
        return tree == 0 ? source.row(i) : tree == 2 ? result.row(i) : null;
    }

    public int at(int tree, int i, boolean path, int k) {
        Entry entry = entryOf(tree, i);
        if (entry == null) {
            return NONE;
        }
        byte[] bytes = path ? entry.path : entry.content;
        return bytes == null || k < 0 || k >= bytes.length ? NONE : bytes[k] & 255;
    }

    public int sum(int i, int k) {
        Entry entry = result.row(i);
        if (entry == null || entry.content == null || k < 0 || k >= SUM_WORDS) {
            return 0;
        }
        sums.take(entry.content);
        return sums.word(k);
    }

    public int about(int what) {
        switch (what) {
            case 0:
                return state;
            case 1:
                return drive.sessions();
            case 2:
                return isWorking() ? plan.done : 0;
            case 3:
                return source.size;
            case 4:
                return result.size;
            case 5:
                return source.bytes();
            case 6:
                return tapeLength;
            case 7:
                return plan.doneInAll;
            default:
                return NONE;
        }
    }

    public int disk(int sort) {
        return drive.count(sort);
    }

    public int command() throws IllegalStateException {
        if (isWorking()) {
            throw new IllegalStateException();
        }
        words.split(tape, tapeLength);
        tapeLength = 0;
        text.length = 0;
        int arguments = words.count - 1;
        if (arguments == 0 && words.is(0, "check")) {
            return checkAll();
        }
        if (arguments == 0 && words.is(0, "sessions")) {
            return showSessions();
        }
        if (arguments == 1 && words.is(0, "backup")) {
            return backUp();
        }
        if (arguments == 1 && words.is(0, "prune")) {
            return forget();
        }
        if (arguments == 1 && words.is(0, "verify")) {
            return checkSums();
        }
        if (arguments == 2 && words.is(0, "changes")) {
            return showChanges();
        }
        boolean oneOrTwo = arguments == 1 || arguments == 2;
        if (oneOrTwo && words.is(0, "restore")) {
            return bringBack();
        }
        if (oneOrTwo && words.is(0, "list")) {
            return showEntries();
        }
        return NO_COMMAND;
    }

    private int checkAll() {
        if (state == BROKEN) {
            openRecovery();
            advance(plan.length());
            text.putText("recovered");
        } else {
            text.putText("well");
        }
        text.putByte(LINE_END);
        return DONE;
    }

    private int showSessions() {
        if (state == BROKEN) {
            return IS_BROKEN;
        }
        for (int i = 0; i < drive.sessions(); i++) {
            text.putNumber(drive.fact(i, AT_TIME));
            text.putByte(BLANK);
            text.putNumber(drive.fact(i, ENTRIES));
            text.putByte(BLANK);
            text.putNumber(drive.fact(i, CHANGES));
            text.putByte(LINE_END);
        }
        return DONE;
    }

    private int backUp() {
        if (state == BROKEN) {
            return IS_BROKEN;
        }
        int time = words.number(1);
        if (time == NONE || time <= drive.latestTime()) {
            return NO_SESSION_TIME;
        }
        if (drive.sessions() >= MOST_SESSIONS) {
            return FULL;
        }
        openSession(time);
        advance(plan.length());
        int session = drive.sessions() - 1;
        text.putLine("entries", drive.fact(session, ENTRIES));
        text.putLine("changes", drive.fact(session, CHANGES));
        text.putLine("new", drive.fact(session, NEW));
        text.putLine("other", drive.fact(session, OTHER));
        text.putLine("gone", drive.fact(session, GONE));
        text.putLine("bytes", drive.fact(session, BYTES));
        text.putLine("errors", drive.fact(session, ERRORS));
        return drive.fact(session, ERRORS) > 0 ? DONE_WITH_ERRORS : DONE;
    }

    /** Why nothing can be done with a session that a word means; DONE if something can. */
    private int refusal(int session) {
        return session == NONE ? NO_TIME : state == BROKEN ? IS_BROKEN : DONE;
    }

    private int forget() {
        int session = words.meaning(1, drive);
        int code = refusal(session);
        if (code == DONE) {
            openPruning(session);
            advance(plan.length());
            text.putLine("sessions", drive.sessions());
        }
        return code;
    }

    private int checkSums() {
        int session = words.meaning(1, drive);
        int code = refusal(session);
        if (code != DONE) {
            return code;
        }
        drive.readTree(drive.sessionTime(session), result);
        int wrong = countWrongSums();
        text.putLine("wrong", wrong);
        return wrong > 0 ? DONE_WITH_ERRORS : DONE;
    }

    private int showChanges() {
        int from = words.meaning(1, drive);
        int to = words.meaning(2, drive);
        int code = refusal(Math.min(from, to));
        if (code != DONE) {
            return code;
        }
        drive.readTree(drive.sessionTime(from), first);
        drive.readTree(drive.sessionTime(to), second);
        Walk walk = new Walk(first, second);
        for (int n = 0; n < 2 * MOST_ENTRIES && walk.next(); n++) {
            int difference = walk.difference();
            if (difference != NONE) {
                text.putText(difference == NEW ? "new " : difference == GONE ? "gone " : "other ");
                text.putPath(walk.path);
                text.putByte(LINE_END);
            }
        }
        return DONE;
    }

    /** Reads the entries that a restore or a list is about into the first tree. */
    private int readNamedEntries() {
        int session = words.meaning(1, drive);
        int code = refusal(session);
        if (code != DONE) {
            return code;
        }
        drive.readTree(drive.sessionTime(session), first);
        if (words.count == 2) {
            return DONE;
        }
        byte[] path = words.path(2);
        if (path == null || first.find(path) == NONE) {
            return NO_PATH;
        }
        first.drop(path, false);
        return DONE;
    }

    private int bringBack() {
        int code = readNamedEntries();
        if (code != DONE) {
            return code;
        }
        Tree old = result;
        result = first;
        first = old;
        text.putLine("entries", result.size);
        text.putLine("bytes", result.bytes());
        return DONE;
    }

    private int showEntries() {
        int code = readNamedEntries();
        if (code != DONE) {
            return code;
        }
        for (int i = 0; i < first.size; i++) {
            Entry entry = first.row(i);
            if (entry != null) {
                text.putEntry(entry);
            }
        }
        return DONE;
    }

    public int output() {
        return text.length;
    }

    public int outputAt(int i) {
        return text.byteAt(i);
    }

    public int session(int i, int what) {
        return drive.fact(i, what);
    }

    /** What the document says of bytes: names, paths and their order. */
    private static final class Bytes {
        private Bytes() {
        }

        static boolean same(byte[] a, byte[] b) {
            if (a.length != b.length) {
                return false;
            }
            for (int i = 0; i < a.length; i++) {
                if (a[i] != b[i]) {
                    return false;
                }
            }
            return true;
        }

        /** No name has a byte 0, so a / that counts as 0 puts what is at an end first. */
        static int order(byte[] a, byte[] b) {
            for (int i = 0; i < a.length && i < b.length; i++) {
                int x = a[i] == '/' ? 0 : a[i] & 255;
                int y = b[i] == '/' ? 0 : b[i] & 255;
                if (x != y) {
                    return x - y;
                }
            }
            return a.length - b.length;
        }

        static boolean isPath(byte[] bytes) {
            int names = 0;
            int start = 0;
            for (int i = 0; i <= bytes.length; i++) {
                if (i == bytes.length || bytes[i] == '/') {
                    if (!isName(bytes, start, i)) {
                        return false;
                    }
                    names++;
                    start = i + 1;
                }
            }
            return names <= MOST_NAMES;
        }

        private static boolean isName(byte[] bytes, int from, int to) {
            int length = to - from;
            if (length < 1 || length > MOST_NAME) {
                return false;
            }
            boolean dots = length <= 2;
            for (int i = from; i < to; i++) {
                if (bytes[i] == 0) {
                    return false;
                }
                dots = dots && bytes[i] == '.';
            }
            return !dots;
        }

        /** How long the path of all names but the last is; 0 if there is one name. */
        static int directoryLength(byte[] path) {
            for (int i = path.length - 1; i > 0; i--) {
                if (path[i] == '/') {
                    return i;
                }
            }
            return 0;
        }

        static boolean isWithin(byte[] path, byte[] top) {
            if (path.length < top.length) {
                return false;
            }
            for (int i = 0; i < top.length; i++) {
                if (path[i] != top[i]) {
                    return false;
                }
            }
            return path.length == top.length || path[top.length] == '/';
        }
    }

    /** An entry of a tree. Its arrays are shared with other entries and never changed in place. */
    private static final class Entry {
        byte[] path = NO_BYTES;
        int kind = 0;
        int mode = 0;
        int time = 0;
        boolean locked = false;
        byte[] content = null;
        // The sum as told with a session; in the source, null until a session needs it.
        int[] sum = null;

        int length() {
            return content == null ? 0 : content.length;
        }

        void replaceContent(byte[] bytes) {
            content = bytes;
            sum = null;
        }

        void copyFrom(Entry other) {
            path = other.path;
            kind = other.kind;
            mode = other.mode;
            time = other.time;
            locked = false;
            content = other.content;
            sum = other.sum;
        }

        boolean hasSameContent(Entry other) {
            if (content == null || other.content == null) {
                return content == null && other.content == null;
            }
            return Bytes.same(content, other.content);
        }

        boolean isAs(Entry other) {
            return kind == other.kind && mode == other.mode && time == other.time
                    && hasSameContent(other);
        }
    }

    /** Entries in the order of their paths. The rows behind the last one are kept to be used again. */
    private static final class Tree {
        private final Entry[] rows;
        int size = 0;

        Tree(int most) {
            rows = new Entry[most];
            for (int i = 0; i < most; i++) {
                rows[i] = new Entry();
            }
        }

        Entry row(int i) {
            return i < 0 || i >= size || i >= rows.length ? null : rows[i];
        }

        int find(byte[] path) {
            for (int i = 0; i < size && i < rows.length; i++) {
                if (Bytes.same(rows[i].path, path)) {
                    return i;
                }
            }
            return NONE;
        }

        /** Where an entry of a path would stand. */
        int place(byte[] path) {
            int i = 0;
            while (i < size && i < rows.length && Bytes.order(rows[i].path, path) < 0) {
                i++;
            }
            return i;
        }

        /** Makes room at a place: a row to be filled; null if the tree is full. */
        Entry grow(int place) {
            if (size >= rows.length || place < 0 || place > size) {
                return null;
            }
            Entry row = rows[size];
            for (int i = size; i > place; i--) {
                rows[i] = rows[i - 1];
            }
            rows[place] = row;
            size++;
            row.locked = false;
            row.replaceContent(null);
            return row;
        }

        Entry append(Entry from) {
            Entry row = grow(size);
            if (row != null) {
                row.copyFrom(from);
            }
            return row;
        }

        /** Drops what is within a path, or what is not: how many went. */
        int drop(byte[] path, boolean within) {
            int kept = 0;
            int before = size;
            for (int i = 0; i < before && i < rows.length; i++) {
                Entry row = rows[i];
                if (Bytes.isWithin(row.path, path) != within) {
                    rows[i] = rows[kept];
                    rows[kept] = row;
                    kept++;
                }
            }
            size = kept;
            return before - kept;
        }

        int bytes() {
            int bytes = 0;
            for (int i = 0; i < size && i < rows.length; i++) {
                bytes += rows[i].length();
            }
            return bytes;
        }

        int lockedCount() {
            int count = 0;
            for (int i = 0; i < size && i < rows.length; i++) {
                if (rows[i].locked) {
                    count++;
                }
            }
            return count;
        }

        Tree withoutContent() {
            Tree copy = new Tree(size);
            for (int i = 0; i < size && i < rows.length; i++) {
                Entry row = copy.append(rows[i]);
                if (row != null) {
                    row.content = null;
                }
            }
            return copy;
        }
    }

    /** Goes through the paths that one of two trees has, in order. */
    private static final class Walk {
        private final Tree before;
        private final Tree after;
        private int i = 0;
        private int j = 0;
        byte[] path = NO_BYTES;
        private Entry left = null;
        private Entry right = null;

        Walk(Tree before, Tree after) {
            this.before = before;
            this.after = after;
        }

        boolean next() {
            left = before.row(i);
            right = after.row(j);
            if (left != null && right != null) {
                int order = Bytes.order(left.path, right.path);
                if (order < 0) {
                    right = null;
                } else if (order > 0) {
                    left = null;
                }
            }
            if (left != null) {
                path = left.path;
                i++;
            }
            if (right != null) {
                path = right.path;
                j++;
            }
            return left != null || right != null;
        }

        /** NEW, OTHER or GONE; NONE if both trees have the same there. */
        int difference() {
            if (left == null) {
                return right == null ? NONE : NEW;
            }
            if (right == null) {
                return GONE;
            }
            return left.isAs(right) ? NONE : OTHER;
        }

        byte[] newContent() {
            return right == null ? null : right.content;
        }

        boolean isContentChange() {
            if (left != null && right != null) {
                return !left.hasSameContent(right);
            }
            return left != null && left.content != null || right != null && right.content != null;
        }
    }

    /** A file on the disk with its name; where it has no path or time, these are empty and 0. */
    private static final class DiskFile {
        final int sort;
        final int time;
        final byte[] path;
        // null where it says that there was nothing.
        final byte[] content;
        final Tree tree;
        final int[] facts;

        DiskFile(int sort, int time, byte[] path, byte[] content) {
            this.sort = sort;
            this.time = time;
            this.path = path;
            this.content = content;
            this.tree = null;
            this.facts = null;
        }

        /** What is told of a session. */
        DiskFile(int time, Tree tree, int[] facts) {
            this.sort = TOLD;
            this.time = time;
            this.path = NO_BYTES;
            this.content = null;
            this.tree = tree;
            this.facts = facts;
        }

        boolean isNamed(int sort, int time, byte[] path) {
            return this.sort == sort && this.time == time && Bytes.same(this.path, path);
        }
    }

    /** The disk as it is: its files by sort, time and path. */
    private static final class Drive {
        private final ArrayList<DiskFile> files = new ArrayList<>();
        private final int[] counts = new int[SORTS];

        int count(int sort) {
            return sort < 0 || sort >= SORTS ? NONE : counts[sort];
        }

        /** Where the files of a sort begin. */
        int start(int sort) {
            int start = 0;
            for (int i = 0; i < sort && i < SORTS; i++) {
                start += counts[i];
            }
            return start;
        }

        /** Where the file of a name stands, or would stand. */
        private int place(int sort, int time, byte[] path) {
            int low = start(sort);
            int high = Math.min(low + counts[sort], files.size());
            while (low < high) {
                int middle = low + high >>> 1;
                DiskFile file = files.get(middle);
                int order = file.time != time ? Integer.compare(file.time, time)
                        : Bytes.order(file.path, path);
                if (order < 0) {
                    low = middle + 1;
                } else {
                    high = middle;
                }
            }
            return low;
        }

        /** The file at a place, if it is of that sort; else null. */
        DiskFile fileOf(int sort, int place) {
            if (place < 0 || place >= files.size()) {
                return null;
            }
            DiskFile file = files.get(place);
            return file.sort == sort ? file : null;
        }

        DiskFile find(int sort, int time, byte[] path) {
            DiskFile file = fileOf(sort, place(sort, time, path));
            return file != null && file.isNamed(sort, time, path) ? file : null;
        }

        /** Puts a file on the disk: the one that had its name, or null. */
        DiskFile put(DiskFile file) {
            int place = place(file.sort, file.time, file.path);
            DiskFile old = fileOf(file.sort, place);
            if (old != null && old.isNamed(file.sort, file.time, file.path)) {
                files.set(place, file);
                return old;
            }
            files.add(place, file);
            counts[file.sort]++;
            return null;
        }

        void take(DiskFile file) {
            int place = place(file.sort, file.time, file.path);
            DiskFile old = fileOf(file.sort, place);
            if (old != null && old.isNamed(file.sort, file.time, file.path)) {
                files.remove(place);
                counts[file.sort]--;
            }
        }

        int sessions() {
            return counts[COMMITTED];
        }

        /** The time of session i of those that are committed; NONE if there is none such. */
        int sessionTime(int i) {
            DiskFile file = i < 0 ? null : fileOf(COMMITTED, start(COMMITTED) + i);
            return file == null ? NONE : file.time;
        }

        int latestTime() {
            return sessionTime(sessions() - 1);
        }

        int latestNotAbove(long time) {
            int i = sessions() - 1;
            while (i >= 0 && sessionTime(i) > time) {
                i--;
            }
            return i < 0 ? NONE : i;
        }

        int fact(int i, int what) {
            int time = sessionTime(i);
            DiskFile told = time == NONE ? null : find(TOLD, time, NO_BYTES);
            if (told == null || told.facts == null || what < 0 || what >= told.facts.length) {
                return NONE;
            }
            return told.facts[what];
        }

        /** The tree of a session: what is told of it, with the mirror's content led back to it. */
        void readTree(int time, Tree into) {
            into.size = 0;
            DiskFile told = find(TOLD, time, NO_BYTES);
            if (told == null || told.tree == null) {
                return;
            }
            for (int i = 0; i < told.tree.size; i++) {
                Entry from = told.tree.row(i);
                Entry row = from == null ? null : into.append(from);
                if (row != null && row.kind != DIRECTORY) {
                    DiskFile mirror = find(MIRROR, 0, row.path);
                    row.content = mirror == null ? null : mirror.content;
                }
            }
            leadBack(time, into);
        }

        private void leadBack(int time, Tree into) {
            for (int i = start(TOLD) - 1; i >= 0; i--) {
                DiskFile file = fileOf(WAY_BACK, i);
                if (file == null || file.time <= time) {
                    return;
                }
                Entry row = into.row(into.find(file.path));
                if (row != null && row.kind != DIRECTORY) {
                    row.content = file.content;
                }
            }
        }
    }

    /** Takes a file from the disk, puts one there, or does both; an operation with neither is a SYNC. */
    private static final class Operation {
        final DiskFile from;
        final DiskFile to;
        // What had the new name, to be put back if the operation is lost.
        DiskFile replaced = null;

        Operation(DiskFile from, DiskFile to) {
            this.from = from;
            this.to = to;
        }

        boolean isSync() {
            return from == null && to == null;
        }
    }

    /** The operations of what is done to the disk, and how far they have gone. */
    private static final class Plan {
        private final Drive drive;
        private final ArrayList<Operation> operations = new ArrayList<>();
        private final Operation sync = new Operation(null, null);
        int done = 0;
        int doneInAll = 0;
        private int synced = 0;

        Plan(Drive drive) {
            this.drive = drive;
        }

        int length() {
            return operations.size();
        }

        boolean isOver() {
            return done >= operations.size();
        }

        int perform(int n) {
            int before = done;
            for (int i = 0; i < n && done < operations.size(); i++) {
                Operation next = operations.get(done);
                if (next.from != null) {
                    drive.take(next.from);
                }
                if (next.to != null) {
                    next.replaced = drive.put(next.to);
                }
                done++;
                if (next.isSync()) {
                    synced = done;
                }
            }
            doneInAll += done - before;
            return done - before;
        }

        /** Takes back what was done behind the last SYNC but for the first n: how many stay. */
        int breakOff(int n) {
            int kept = Math.min(n, done - synced);
            for (int i = done - 1; i >= synced + kept && i < operations.size(); i--) {
                takeBack(operations.get(i));
            }
            return kept;
        }

        private void takeBack(Operation last) {
            if (last.to != null) {
                drive.take(last.to);
            }
            if (last.replaced != null) {
                drive.put(last.replaced);
            }
            if (last.from != null) {
                drive.put(last.from);
            }
        }

        private void clear() {
            operations.clear();
            done = 0;
            synced = 0;
        }

        private void addWrite(DiskFile to) {
            operations.add(new Operation(null, to));
        }

        private void addRename(DiskFile from, DiskFile to) {
            operations.add(new Operation(from, to));
        }

        private void addDelete(DiskFile from) {
            if (from != null) {
                operations.add(new Operation(from, null));
            }
        }

        private void addSync() {
            operations.add(sync);
        }

        void planSession(DiskFile told, Tree before, Tree now) {
            clear();
            DiskFile begun = new DiskFile(BEGUN, told.time, NO_BYTES, null);
            addWrite(begun);
            addSync();
            int changes = 0;
            Walk walk = new Walk(before, now);
            for (int n = 0; n < 2 * MOST_ENTRIES && walk.next(); n++) {
                if (walk.isContentChange()) {
                    DiskFile old = drive.find(MIRROR, 0, walk.path);
                    planChange(told.time, walk.path, old, walk.newContent());
                    changes++;
                }
            }
            if (told.facts != null && told.facts.length > CHANGES) {
                told.facts[CHANGES] = changes;
            }
            addWrite(told);
            addSync();
            addRename(begun, new DiskFile(COMMITTED, told.time, NO_BYTES, null));
            addSync();
            planDropOfSetAside();
            addSync();
        }

        private void planChange(int time, byte[] path, DiskFile old, byte[] content) {
            addWrite(new DiskFile(WAY_BACK, time, path, old == null ? null : old.content));
            addSync();
            if (old != null) {
                addRename(old, new DiskFile(SET_ASIDE, 0, path, old.content));
            }
            if (content != null) {
                DiskFile next = new DiskFile(NEXT, 0, NO_BYTES, content);
                addWrite(next);
                addSync();
                addRename(next, new DiskFile(MIRROR, 0, path, content));
            }
            addSync();
        }

        private void planDropOfSetAside() {
            int planned = operations.size();
            for (int i = 0; i < planned; i++) {
                DiskFile to = operations.get(i).to;
                if (to != null && to.sort == SET_ASIDE) {
                    addDelete(to);
                }
            }
        }

        void planPruning(int session) {
            clear();
            int start = drive.start(COMMITTED);
            for (int i = 0; i < session; i++) {
                addDelete(drive.fileOf(COMMITTED, start + i));
            }
            addSync();
            for (int i = 0; i < session; i++) {
                addDelete(drive.find(TOLD, drive.sessionTime(i), NO_BYTES));
            }
            planDropOfWaysBack(drive.sessionTime(session));
            addSync();
        }

        private void planDropOfWaysBack(int latest) {
            int start = drive.start(WAY_BACK);
            for (int i = 0; i < drive.count(WAY_BACK); i++) {
                DiskFile file = drive.fileOf(WAY_BACK, start + i);
                if (file != null && file.time <= latest) {
                    addDelete(file);
                }
            }
        }

        void planRecovery() {
            clear();
            DiskFile begun = drive.fileOf(BEGUN, drive.start(BEGUN));
            if (begun != null) {
                planUndoing(begun);
            } else {
                planFinishing();
            }
            addSync();
        }

        private void planUndoing(DiskFile begun) {
            int aside = drive.start(SET_ASIDE);
            for (int i = 0; i < drive.count(SET_ASIDE); i++) {
                DiskFile file = drive.fileOf(SET_ASIDE, aside + i);
                if (file != null) {
                    addRename(file, new DiskFile(MIRROR, 0, file.path, file.content));
                }
            }
            int back = drive.start(WAY_BACK);
            for (int i = 0; i < drive.count(WAY_BACK); i++) {
                DiskFile file = drive.fileOf(WAY_BACK, back + i);
                if (file != null && file.time == begun.time && file.content == null) {
                    addDelete(drive.find(MIRROR, 0, file.path));
                }
            }
            addSync();
            addDelete(drive.find(NEXT, 0, NO_BYTES));
            for (int i = 0; i < drive.count(WAY_BACK); i++) {
                DiskFile file = drive.fileOf(WAY_BACK, back + i);
                if (file != null && file.time == begun.time) {
                    addDelete(file);
                }
            }
            addDelete(drive.find(TOLD, begun.time, NO_BYTES));
            addSync();
            addDelete(begun);
        }

        private void planFinishing() {
            int aside = drive.start(SET_ASIDE);
            for (int i = 0; i < drive.count(SET_ASIDE); i++) {
                addDelete(drive.fileOf(SET_ASIDE, aside + i));
            }
            addDelete(drive.find(NEXT, 0, NO_BYTES));
            int told = drive.start(TOLD);
            for (int i = 0; i < drive.count(TOLD); i++) {
                DiskFile file = drive.fileOf(TOLD, told + i);
                if (file != null && drive.find(COMMITTED, file.time, NO_BYTES) == null) {
                    addDelete(file);
                }
            }
            planDropOfWaysBack(drive.sessions() == 0 ? LATEST_OF_ALL : drive.sessionTime(0));
        }
    }

    /** SHA-256. */
    private static final class Sums {
        private static final int[] START = {
            0x6a09e667, 0xbb67ae85, 0x3c6ef372, 0xa54ff53a,
            0x510e527f, 0x9b05688c, 0x1f83d9ab, 0x5be0cd19
        };
        private static final int[] ROUNDS = {
            0x428a2f98, 0x71374491, 0xb5c0fbcf, 0xe9b5dba5, 0x3956c25b, 0x59f111f1, 0x923f82a4, 0xab1c5ed5,
            0xd807aa98, 0x12835b01, 0x243185be, 0x550c7dc3, 0x72be5d74, 0x80deb1fe, 0x9bdc06a7, 0xc19bf174,
            0xe49b69c1, 0xefbe4786, 0x0fc19dc6, 0x240ca1cc, 0x2de92c6f, 0x4a7484aa, 0x5cb0a9dc, 0x76f988da,
            0x983e5152, 0xa831c66d, 0xb00327c8, 0xbf597fc7, 0xc6e00bf3, 0xd5a79147, 0x06ca6351, 0x14292967,
            0x27b70a85, 0x2e1b2138, 0x4d2c6dfc, 0x53380d13, 0x650a7354, 0x766a0abb, 0x81c2c92e, 0x92722c85,
            0xa2bfe8a1, 0xa81a664b, 0xc24b8b70, 0xc76c51a3, 0xd192e819, 0xd6990624, 0xf40e3585, 0x106aa070,
            0x19a4c116, 0x1e376c08, 0x2748774c, 0x34b0bcb5, 0x391c0cb3, 0x4ed8aa4a, 0x5b9cca4f, 0x682e6ff3,
            0x748f82ee, 0x78a5636f, 0x84c87814, 0x8cc70208, 0x90befffa, 0xa4506ceb, 0xbef9a3f7, 0xc67178f2
        };

        private final int[] schedule = new int[64];
        private final int[] state = new int[SUM_WORDS];

        void take(byte[] bytes) {
            System.arraycopy(START, 0, state, 0, SUM_WORDS);
            // Behind the bytes come 128 and, at the end of the last block, eight for the length.
            int blocks = (bytes.length + 9 + 63) / 64;
            for (int i = 0; i < blocks; i++) {
                loadBlock(bytes, 64 * i);
                if (i == blocks - 1) {
                    schedule[15] = 8 * bytes.length;
                }
                spreadSchedule();
                mixBlock();
            }
        }

        int word(int k) {
            return k < 0 || k >= SUM_WORDS ? 0 : state[k];
        }

        int[] sumOf(byte[] bytes) {
            take(bytes);
            return state.clone();
        }

        boolean isSum(byte[] bytes, int[] sum) {
            if (bytes == null || sum == null || sum.length != SUM_WORDS) {
                return false;
            }
            take(bytes);
            for (int i = 0; i < SUM_WORDS; i++) {
                if (sum[i] != state[i]) {
                    return false;
                }
            }
            return true;
        }

        private void loadBlock(byte[] bytes, int from) {
            for (int i = 0; i < 16; i++) {
                int word = 0;
                for (int j = from + 4 * i; j < from + 4 * i + 4; j++) {
                    int next = j < bytes.length ? bytes[j] & 255 : j == bytes.length ? 128 : 0;
                    word = word << 8 | next;
                }
                schedule[i] = word;
            }
        }

        private void spreadSchedule() {
            for (int i = 16; i < 64; i++) {
                int x = schedule[i - 15];
                int y = schedule[i - 2];
                int small = (x >>> 7 | x << 25) ^ (x >>> 18 | x << 14) ^ x >>> 3;
                int large = (y >>> 17 | y << 15) ^ (y >>> 19 | y << 13) ^ y >>> 10;
                schedule[i] = schedule[i - 16] + small + schedule[i - 7] + large;
            }
        }

        private void mixBlock() {
            int a = state[0];
            int b = state[1];
            int c = state[2];
            int d = state[3];
            int e = state[4];
            int f = state[5];
            int g = state[6];
            int h = state[7];
            for (int i = 0; i < 64; i++) {
                int turnE = (e >>> 6 | e << 26) ^ (e >>> 11 | e << 21) ^ (e >>> 25 | e << 7);
                int one = h + turnE + (e & f ^ ~e & g) + ROUNDS[i] + schedule[i];
                int turnA = (a >>> 2 | a << 30) ^ (a >>> 13 | a << 19) ^ (a >>> 22 | a << 10);
                int two = turnA + (a & b ^ a & c ^ b & c);
                h = g;
                g = f;
                f = e;
                e = d + one;
                d = c;
                c = b;
                b = a;
                a = one + two;
            }
            state[0] += a;
            state[1] += b;
            state[2] += c;
            state[3] += d;
            state[4] += e;
            state[5] += f;
            state[6] += g;
            state[7] += h;
        }
    }

    /** The words on the tape, and what they say. They are good until the tape has others. */
    private static final class Words {
        private static final String UNITS = "smhDW";
        private static final int[] SECONDS = {1, 60, 3600, 86400, 604800};

        private byte[] tape = NO_BYTES;
        private final int[] starts = new int[MOST_WORDS];
        private final int[] stops = new int[MOST_WORDS];
        int count = 0;

        /** Takes the tape as one word, blanks and all. */
        void takeWhole(byte[] bytes, int length) {
            tape = bytes;
            count = 1;
            starts[0] = 0;
            stops[0] = length;
        }

        void split(byte[] bytes, int length) {
            tape = bytes;
            count = 0;
            int start = 0;
            for (int i = 0; i <= length && i <= bytes.length; i++) {
                if (i == length || i == bytes.length || bytes[i] == BLANK) {
                    if (i > start) {
                        addWord(start, i);
                    }
                    start = i + 1;
                }
            }
        }

        /** No command has more words than are kept; of the others only their number matters. */
        private void addWord(int start, int stop) {
            if (count < MOST_WORDS) {
                starts[count] = start;
                stops[count] = stop;
            }
            count++;
        }

        private boolean isWord(int word) {
            return word >= 0 && word < count && word < MOST_WORDS;
        }

        boolean is(int word, String name) {
            if (!isWord(word) || stops[word] - starts[word] != name.length()) {
                return false;
            }
            for (int i = 0; i < name.length(); i++) {
                if (tape[starts[word] + i] != name.charAt(i)) {
                    return false;
                }
            }
            return true;
        }

        /** How many digits stand from a place on. */
        private int countDigits(int from, int stop) {
            int i = from;
            while (i < stop && tape[i] >= '0' && tape[i] <= '9') {
                i++;
            }
            return i - from;
        }

        /** The number of a few digits, or NONE if there is none of them or more than that few. */
        private int readDigits(int from, int digits, int most) {
            if (digits < 1 || digits > most) {
                return NONE;
            }
            int value = 0;
            for (int i = from; i < from + digits; i++) {
                value = 10 * value + tape[i] - '0';
            }
            return value;
        }

        /** A word of 1 to 9 digits as a number; NONE if it is none such. */
        int number(int word) {
            if (!isWord(word)) {
                return NONE;
            }
            int length = stops[word] - starts[word];
            int digits = countDigits(starts[word], stops[word]);
            return digits == length ? readDigits(starts[word], digits, 9) : NONE;
        }

        /** Which session a word means as a time; NONE if it is no time or means none. */
        int meaning(int word, Drive drive) {
            int latest = drive.sessions() - 1;
            if (!isWord(word) || latest < 0) {
                return NONE;
            }
            if (is(word, "now")) {
                return latest;
            }
            int start = starts[word];
            int stop = stops[word];
            int digits = countDigits(start, stop);
            if (digits == stop - start) {
                int time = readDigits(start, digits, 9);
                return time == NONE ? NONE : drive.latestNotAbove(time);
            }
            if (digits == stop - start - 1 && tape[stop - 1] == 'B') {
                int back = readDigits(start, digits, 4);
                return back == NONE || back > latest ? NONE : latest - back;
            }
            long ago = readSpan(start, stop);
            return ago < 0 ? NONE : drive.latestNotAbove(drive.latestTime() - ago);
        }

        /** Numbers with units, in seconds; NONE if that is no such span. */
        private long readSpan(int start, int stop) {
            long span = 0;
            int used = 0;
            int i = start;
            for (int n = 0; n < SECONDS.length && i < stop; n++) {
                int digits = countDigits(i, stop);
                int value = readDigits(i, digits, 6);
                i += digits;
                int unit = i < stop ? UNITS.indexOf((char) (tape[i] & 255)) : NONE;
                if (value == NONE || unit < 0 || unit >= SECONDS.length || (used >> unit & 1) != 0) {
                    return NONE;
                }
                used |= 1 << unit;
                span += (long) value * SECONDS[unit];
                i++;
            }
            return i == stop ? span : NONE;
        }

        /** A word as a path; null if it is none. */
        byte[] path(int word) {
            if (!isWord(word)) {
                return null;
            }
            int stop = stops[word];
            byte[] read = new byte[stop - starts[word]];
            int length = 0;
            for (int i = starts[word]; i < stop; i++) {
                int next = tape[i] & 255;
                if (next < 33 || next > 126) {
                    return null;
                }
                if (next == '%') {
                    next = i + 2 < stop ? readPair(tape[i + 1], tape[i + 2]) : NONE;
                    i += 2;
                }
                if (next == NONE || length >= read.length) {
                    return null;
                }
                read[length] = (byte) next;
                length++;
            }
            byte[] path = Arrays.copyOf(read, length);
            return Bytes.isPath(path) ? path : null;
        }

        private static int readPair(int high, int low) {
            int a = readHexadecimal(high);
            int b = readHexadecimal(low);
            return a == NONE || b == NONE ? NONE : 16 * a + b;
        }

        private static int readHexadecimal(int digit) {
            if (digit >= '0' && digit <= '9') {
                return digit - '0';
            }
            if (digit >= 'a' && digit <= 'f') {
                return digit - 'a' + 10;
            }
            return digit >= 'A' && digit <= 'F' ? digit - 'A' + 10 : NONE;
        }
    }

    /** The output of a command. */
    private static final class Text {
        private static final String DIGITS = "0123456789abcdef";
        private static final String KINDS = "-fdl";

        private final byte[] bytes = new byte[MOST_OUTPUT];
        int length = 0;

        int byteAt(int i) {
            return i < 0 || i >= length || i >= bytes.length ? NONE : bytes[i] & 255;
        }

        void putByte(int value) {
            if (length < bytes.length) {
                bytes[length] = (byte) value;
                length++;
            }
        }

        void putText(String put) {
            for (int i = 0; i < put.length(); i++) {
                putByte(put.charAt(i));
            }
        }

        void putNumber(int number) {
            boolean begun = false;
            for (int scale = 1000000000; scale > 0; scale /= 10) {
                int digit = number / scale % 10;
                begun = begun || digit != 0 || scale == 1;
                if (begun) {
                    putByte('0' + digit);
                }
            }
        }

        void putLine(String word, int number) {
            putText(word);
            putByte(BLANK);
            putNumber(number);
            putByte(LINE_END);
        }

        void putPath(byte[] path) {
            for (int i = 0; i < path.length; i++) {
                int next = path[i] & 255;
                if (next < 33 || next > 126 || next == '%') {
                    putByte('%');
                    putByte(DIGITS.charAt(next >> 4));
                    putByte(DIGITS.charAt(next & 15));
                } else {
                    putByte(next);
                }
            }
        }

        void putEntry(Entry entry) {
            putByte(KINDS.charAt(entry.kind & 3));
            putByte(BLANK);
            for (int shift = 9; shift >= 0; shift -= 3) {
                putByte('0' + (entry.mode >> shift & 7));
            }
            putByte(BLANK);
            putNumber(entry.time);
            putByte(BLANK);
            putNumber(entry.length());
            putByte(BLANK);
            putPath(entry.path);
            putByte(LINE_END);
        }
    }
}
