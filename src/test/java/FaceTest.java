import java.io.IOException;
import java.lang.reflect.Constructor;
import java.lang.reflect.Field;
import java.lang.reflect.Method;
import java.lang.reflect.Modifier;
import java.nio.file.Files;
import java.nio.file.Path;
import java.util.Arrays;
import java.util.TreeSet;

/** The face of the class is the document's, and nothing beside it can be seen from outside. */
public final class FaceTest {
    private static final String[] FACE = {
        "void feed(int,int,int,int,int)",
        "int end(int)",
        "int make(int,int,int) IllegalArgumentException IllegalStateException",
        "int choose()",
        "int write(int) IllegalArgumentException IllegalStateException",
        "void cut(int) IllegalArgumentException IllegalStateException",
        "void set(int,int,boolean) IllegalArgumentException IllegalStateException",
        "int remove() IllegalStateException",
        "int begin(int) IllegalArgumentException IllegalStateException",
        "int prune() IllegalArgumentException IllegalStateException",
        "int recover() IllegalStateException",
        "int step(int) IllegalStateException IllegalArgumentException",
        "int crash(int) IllegalStateException IllegalArgumentException",
        "int restore() IllegalArgumentException IllegalStateException",
        "int verify() IllegalArgumentException IllegalStateException",
        "int entry(int,int,int)",
        "int at(int,int,boolean,int)",
        "int sum(int,int)",
        "int about(int)",
        "int disk(int)",
        "int command() IllegalStateException",
        "int output()",
        "int outputAt(int)",
        "int session(int,int)",
    };

    private FaceTest() {
    }

    private static String written(Method method) {
        StringBuilder text = new StringBuilder();
        text.append(method.getReturnType()).append(' ').append(method.getName()).append('(');
        Class<?>[] types = method.getParameterTypes();
        for (int i = 0; i < types.length; i++) {
            text.append(i == 0 ? "" : ",").append(types[i]);
        }
        text.append(')');
        for (Class<?> thrown : method.getExceptionTypes()) {
            text.append(' ').append(thrown.getSimpleName());
        }
        return text.toString();
    }

    /** Each line of the face in the document stands in the class as it is, and nothing else is public there. */
    private static void asWritten() throws IOException {
        String source = Files.readString(Path.of("src", "main", "java", "MirrorWorks.java")).replaceAll("\\s+", " ");
        String document = Check.document();
        int from = document.indexOf("```java ") + 8;
        String face = document.substring(from, document.indexOf(" } ```", from));
        int lines = 0;
        for (String line : face.split("[;{]")) {
            String due = line.trim() + (line.contains("NONE") ? ";" : " {");
            Check.due("[" + due + "] in the class", source.contains(due) ? 1 : 0, 1);
            lines++;
        }
        Check.due("lines of the face", lines, FACE.length + 3);
        Check.due("what is public", source.split("\\bpublic ", -1).length - 1, lines);
    }

    public static void main(String[] args) throws IOException {
        if (Check.hasDocument()) {
            asWritten();
        }
        TreeSet<String> seen = new TreeSet<>();
        TreeSet<String> names = new TreeSet<>();
        for (Method method : MirrorWorks.class.getDeclaredMethods()) {
            if (!Modifier.isPrivate(method.getModifiers())) {
                seen.add(written(method));
                names.add(method.getName());
                Check.due(method + " public", Modifier.isPublic(method.getModifiers()) ? 1 : 0, 1);
            }
        }
        Check.due("methods", seen.toString(), new TreeSet<>(Arrays.asList(FACE)).toString());
        for (Class<?> inside : MirrorWorks.class.getDeclaredClasses()) {
            int modifiers = inside.getModifiers();
            Check.due(inside + " static", Modifier.isStatic(modifiers) ? 1 : 0, 1);
            Check.due(inside + " public", Modifier.isPublic(modifiers) || Modifier.isProtected(modifiers) ? 1 : 0, 0);
            for (Method method : inside.getDeclaredMethods()) {
                Check.due(method + " bears a public name", names.contains(method.getName()) ? 1 : 0, 0);
            }
            Check.due(inside + " fields", inside.getDeclaredFields().length <= 20 ? 1 : 0, 1);
        }
        for (Method method : MirrorWorks.class.getDeclaredMethods()) {
            boolean hidden = Modifier.isPrivate(method.getModifiers());
            Check.due(method + " bears a public name", hidden && names.contains(method.getName()) ? 1 : 0, 0);
        }
        for (Field field : MirrorWorks.class.getDeclaredFields()) {
            boolean none = field.getName().equals("NONE");
            Check.due(field + " private", Modifier.isPrivate(field.getModifiers()) ? 1 : 0, none ? 0 : 1);
        }
        Constructor<?>[] constructors = MirrorWorks.class.getDeclaredConstructors();
        Check.due("constructors", constructors.length, 1);
        Check.due("parameters of the constructor", constructors[0].getParameterCount(), 0);
        Check.due("the class", Modifier.toString(MirrorWorks.class.getModifiers()), "public final");
        Check.due("NONE", MirrorWorks.NONE, -1);
        Check.close();
    }
}
