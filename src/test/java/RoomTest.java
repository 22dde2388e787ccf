import java.lang.management.ManagementFactory;
import java.nio.charset.StandardCharsets;
import java.util.Arrays;

/**
 * What the dearest runs of 512 calls make must fit into one room, as nothing in it is ever given
 * back. A byte is the smallest element, and no object takes fewer than 16, so the bytes that a
 * run takes here are never less than its elements, nor a sixteenth of them less than its objects.
 */
public final class RoomTest {
    private static final int CALLS = 512;
    private static final long ELEMENTS = 7_300_000;
    private static final long OBJECTS = 600_000;

    private final MirrorWorks works = new MirrorWorks();
    private int calls = 0;
    private int clock = 0;

    private RoomTest() {
    }

    /** Whether there is room for the most calls that one turn of a loop here makes. */
    private boolean isOpen() {
        return calls + 15 <= CALLS;
    }

    private void tape(String text) {
        byte[] bytes = Arrays.copyOf(text.getBytes(StandardCharsets.ISO_8859_1), 420);
        for (int i = 0; i < text.length(); i += 20) {
            works.feed(Check.word(bytes, i), Check.word(bytes, i + 4), Check.word(bytes, i + 8),
                    Check.word(bytes, i + 12), Check.word(bytes, i + 16));
            works.end(Math.min(20, text.length() - i));
            calls += 2;
        }
    }

    private void make(String path, int kind) {
        tape(path);
        Check.of(() -> works.make(kind, 0, 0));
        calls++;
    }

    private void command(String words) {
        tape(words);
        Check.of(works::command);
        calls++;
    }

    private void begin() {
        clock++;
        Check.of(() -> works.begin(clock));
        calls++;
    }

    private void step() {
        Check.of(() -> works.step(400));
        calls++;
    }

    private void fill() {
        make("d", 2);
        for (int i = 0; i < 39; i++) {
            make("d/" + i, 1);
        }
    }

    /** A session of as many operations as there can be, broken off and undone over and over. */
    private void breakOff() {
        fill();
        begin();
        step();
        tape("d");
        works.choose();
        works.remove();
        calls += 2;
        for (int i = 0; i < 40; i++) {
            make("e" + i, 1);
        }
        while (isOpen()) {
            begin();
            step();
            Check.of(() -> works.crash(9));
            Check.of(works::recover);
            calls += 2;
            step();
        }
    }

    /** Recovery that is broken off over and over. */
    private void recover() {
        fill();
        begin();
        Check.of(() -> works.step(236));
        Check.of(() -> works.crash(9));
        calls += 2;
        while (isOpen()) {
            Check.of(works::recover);
            Check.of(() -> works.crash(0));
            calls += 2;
        }
    }

    private void writeAndCut() {
        make("f", 1);
        for (int i = 0; i < 3; i++) {
            tape("x".repeat(400));
            works.write(400 * i);
            calls++;
        }
        while (isOpen()) {
            works.end(1);
            works.write(0);
            works.cut(1200);
            calls += 3;
        }
    }

    private void commands() {
        fill();
        while (isOpen()) {
            command("backup " + clock++);
            command("prune 0B");
            command("changes now now");
            command("restore now d");
            command("verify 0B");
        }
    }

    private void sessions() {
        fill();
        while (isOpen()) {
            command("backup " + clock++);
            works.cut(0);
            works.end(1);
            works.write(0);
            calls += 3;
            command("verify 29B");
            command("list 29B");
        }
    }

    private static long taken() {
        com.sun.management.ThreadMXBean bean = (com.sun.management.ThreadMXBean) ManagementFactory.getThreadMXBean();
        return bean.getThreadAllocatedBytes(Thread.currentThread().getId());
    }

    private static long run(int which) {
        long before = taken();
        RoomTest test = new RoomTest();
        switch (which) {
            case 0 -> test.breakOff();
            case 1 -> test.recover();
            case 2 -> test.writeAndCut();
            case 3 -> test.commands();
            default -> test.sessions();
        }
        Check.due("calls of run " + which, test.calls <= CALLS ? 1 : 0, 1);
        return taken() - before;
    }

    public static void main(String[] args) {
        for (int which = 0; which < 5; which++) {
            long bytes = run(which);
            System.out.println("run " + which + " takes at most " + bytes + " elements, " + bytes / 16 + " objects");
            Check.due("elements of run " + which, bytes <= ELEMENTS ? 1 : 0, 1);
            Check.due("objects of run " + which, bytes / 16 <= OBJECTS ? 1 : 0, 1);
        }
        Check.close();
    }
}
