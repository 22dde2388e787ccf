import java.lang.reflect.Field;
import java.util.List;

/** Promise 16 where the works is not right: content that went wrong on the disk is found by its sum. */
public final class SumsTest {
    private SumsTest() {
    }

    private static Object field(Object of, String name) throws ReflectiveOperationException {
        Field field = of.getClass().getDeclaredField(name);
        field.setAccessible(true);
        return field.get(of);
    }

    /** Changes a bit of the content of the files of a sort and a path, behind the back of the works. */
    private static void spoil(Works works, int sort, String path) throws ReflectiveOperationException {
        for (Object file : (List<?>) field(field(works.object(), "drive"), "files")) {
            byte[] content = (byte[]) field(file, "content");
            String name = new String((byte[]) field(file, "path"), java.nio.charset.StandardCharsets.ISO_8859_1);
            if ((Integer) field(file, "sort") == sort && name.equals(path) && content != null) {
                content[content.length - 1] ^= 1;
            }
        }
    }

    private static Works twoSessions() {
        Works x = new Works();
        Check.file(x, "a", "first");
        Check.make(x, "d", 2, 0, 0);
        Check.file(x, "d/a", "aaa");
        Check.file(x, "d/b", "bbb");
        Check.make(x, "d/l", 3, 0, 0);
        Check.write(x, "lll", 0);
        Check.session(x, 1);
        Check.write(x, "LLL", 0);
        Check.session(x, 2);
        Check.due("right", Check.verify(x, "now"), 0);
        Check.due("right before", Check.verify(x, "1B"), 0);
        return x;
    }

    private static void spoilt(Works x) throws ReflectiveOperationException {
        spoil(x, 0, "d/a");
        Check.due("one now", Check.verify(x, "now"), 1);
        Check.due("the result", Check.bytes(x, 2, 2, false), "aa`");
        Check.due("one before", Check.verify(x, "1B"), 1);
        spoil(x, 2, "d/l");
        Check.due("one now still", Check.verify(x, "now"), 1);
        Check.due("the command for one", Check.command(x, "verify now"), 7);
        Check.due("its output for one", Check.output(x), "wrong 1\n");
        Check.due("two before", Check.verify(x, "1B"), 2);
        Check.due("the command", Check.command(x, "verify 1"), 7);
        Check.due("its output", Check.output(x), "wrong 2\n");
        Check.due("restore does not look at sums", Check.command(x, "restore 1"), 0);
        spoil(x, 0, "d/a");
        Check.due("right again", Check.command(x, "verify 2"), 0);
        spoil(x, 0, "d/b");
        Check.due("another", Check.verify(x, "now"), 1);
        spoil(x, 0, "d/l");
        Check.due("two", Check.verify(x, "now"), 2);
        spoil(x, 0, "a");
        Check.due("the first of all", Check.verify(x, "now"), 3);
    }

    public static void main(String[] args) {
        Works x = twoSessions();
        try {
            spoilt(x);
        } catch (ReflectiveOperationException e) {
            // How the state is held is free: a class with another inside can't be spoilt from here.
            System.out.println("the inside is another one: " + e);
        }
        Check.close();
    }
}
