import java.io.IOException;
import java.nio.file.Files;
import java.nio.file.Path;
import java.util.regex.Matcher;
import java.util.regex.Pattern;

/** Rules of ../shared/LANGUAGE.md that can be seen in the text of the class. */
public final class LanguageTest {
    private static final String THROWN = "IllegalStateException|IllegalArgumentException|IndexOutOfBoundsException"
            + "|ArithmeticException|UnsupportedOperationException|NoSuchElementException|RuntimeException";
    private static final String WORDS_OF_JAVA = "if|for|while|switch|catch|return|new|else|do|throw|super|this";

    private LanguageTest() {
    }

    /** The text without comments, and with empty literals. */
    private static String bare(String source) {
        Matcher parts = Pattern.compile("//[^\n]*|/\\*.*?\\*/|\"(?:[^\"\\\\\n]|\\\\.)*\"|'(?:[^'\\\\\n]|\\\\.)+'", Pattern.DOTALL)
                .matcher(source);
        return parts.replaceAll(part -> switch (part.group().charAt(0)) {
            case '"' -> "\"\"";
            case '\'' -> "'_'";
            default -> part.group().replaceAll("[^\n]", "");
        });
    }

    private static void noneOf(String rule, String bare, String pattern) {
        Matcher found = Pattern.compile(pattern).matcher(bare);
        Check.due(rule, found.find() ? found.group() : "", "");
    }

    private static void words(String bare) {
        noneOf("1: no package", bare, "\\bpackage\\b");
        noneOf("2: no lambda, no method reference", bare, "->|::");
        noneOf("3: no var, no double, no float", bare, "\\b(var|double|float)\\b");
        noneOf("4: imports", bare, "\\bimport (?!java\\.util\\.(ArrayList|List|Arrays);)[^;]*;");
        noneOf("5: no static state", bare, "\\bstatic (?!final )(?!class )[\\w<>\\[\\]]+ \\w+( =|;)");
        noneOf("5: no static initialiser", bare, "\\bstatic \\{");
        noneOf("6: what is thrown", bare, "\\bthrow (?!new (" + THROWN + ")\\((\"\")?\\);)[^;]*;");
        noneOf("6: words that it leaves out", bare, "\\b(finally|synchronized|assert|getMessage|hashCode|toString|try)\\b");
        noneOf("10: texts are not joined by +", bare, "\"\" ?\\+|\\+=? ?\"\"");
        noneOf("13: nothing from outside", bare,
                "\\b(Thread|Random|Instant|Runtime|Files?\\.|Math\\.random|currentTimeMillis|nanoTime|getenv|getProperty|out\\.print)");
        noneOf("4: System", bare, "\\bSystem\\.(?!arraycopy\\()\\w+");
        noneOf("4: Arrays", bare, "\\bArrays\\.(?!(copyOf|copyOfRange|fill)\\()\\w+");
        noneOf("4: Math", bare, "\\bMath\\.\\w*Exact|\\bMath\\.(sqrt|pow|floor|ceil|round)\\b");
    }

    private static int lines(String text) {
        return (int) text.chars().filter(c -> c == '\n').count();
    }

    /** From the { at a place to the } that closes it. */
    private static String body(String bare, int from) {
        int depth = 0;
        for (int i = from; i < bare.length(); i++) {
            depth += bare.charAt(i) == '{' ? 1 : bare.charAt(i) == '}' ? -1 : 0;
            if (depth == 0) {
                return bare.substring(from, i + 1);
            }
        }
        return bare.substring(from);
    }

    private static void methods(String bare) {
        Matcher heads = Pattern.compile("\\b(\\w+)\\(([^(){};]*)\\)\\s*(throws [\\w, ]+)?\\s*\\{").matcher(bare);
        int methods = 0;
        while (heads.find()) {
            String name = heads.group(1);
            if (name.matches(WORDS_OF_JAVA)) {
                continue;
            }
            methods++;
            String body = body(bare, heads.end() - 1);
            int parameters = heads.group(2).isBlank() ? 0 : heads.group(2).split(",").length;
            Check.due("11: parameters of " + name, parameters <= 7 ? 1 : 0, 1);
            Check.due("11: lines of " + name, lines(body) <= 60 ? 1 : 0, 1);
            boolean constructor = Character.isUpperCase(name.charAt(0));
            Check.due("6: no throw in the constructor of " + name, constructor && body.contains("throw ") ? 1 : 0, 0);
            if (!constructor) {
                noneOf("8: " + name + " does not call itself", body, "(?<![.\\w])" + name + "\\(");
            }
        }
        Check.due("methods were found", methods > 100 ? 1 : 0, 1);
    }

    public static void main(String[] args) throws IOException {
        String source = Files.readString(Path.of("src", "main", "java", "MirrorWorks.java"));
        String bare = bare(source);
        noneOf("characters", source, "[^\\n -~]");
        words(bare);
        methods(bare);
        int classes = bare.split("\\b(class|record|enum|interface) \\w+", -1).length - 1;
        Check.due("11: classes", classes >= 1 && classes <= 12 ? 1 : 0, 1);
        Check.due("1: one public class", bare.split("\\bpublic final class MirrorWorks \\{", -1).length - 1, 1);
        Check.close();
    }
}
