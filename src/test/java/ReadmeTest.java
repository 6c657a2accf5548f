import java.io.IOException;
import java.lang.reflect.Method;
import java.net.URL;
import java.net.URLClassLoader;
import java.nio.file.Files;
import java.nio.file.Path;
import java.util.ArrayList;
import java.util.List;
import java.util.regex.Matcher;
import java.util.regex.Pattern;
import javax.tools.ToolProvider;

/** Runs the examples of README.md, one behind the other, and compares each answer with the number in its comment. */
public final class ReadmeTest {
    private static final Pattern BLOCK = Pattern.compile("(?s)```java\n(.*?)```");
    private static final Pattern CALL = Pattern.compile("(int \\w+ = )?(heap\\.\\w+\\(.*); +// (-?\\d+)(:.*)?");
    private static final String[] METHODS = {"alloc", "setField", "setRoot", "collect", "moved", "run", "save", "restore"};

    public static void main(String[] args) throws Exception {
        Path work = Files.createTempDirectory("readme");
        try {
            runExample(work, example(Files.readString(Path.of("README.md"))));
        } finally {
            remove(work);
        }
        Check.end();
    }

    private static String example(String page) {
        StringBuilder source = new StringBuilder("public final class Example {\n");
        source.append("public static void ask(java.util.List<Object[]> answers) {\n");
        Matcher blocks = BLOCK.matcher(page);
        while (blocks.find()) {
            for (String line : blocks.group(1).split("\n")) {
                source.append(checked(line)).append('\n');
            }
        }
        for (String method : METHODS) {
            Check.holds("the page shows " + method, source.indexOf("heap." + method + "(") >= 0);
        }
        return source.append("}\n}\n").toString();
    }

    /** A call with a number in its comment becomes a question; all else stays as it is. */
    private static String checked(String line) {
        Matcher call = CALL.matcher(line);
        if (!call.matches()) {
            Check.holds("a call of which the answer is not told: " + line, !line.startsWith("heap."));
            return line;
        }
        if (call.group(1) == null) {
            return answer(call.group(2), call.group(3));
        }
        String name = call.group(1).split(" ")[1];
        return call.group(1) + call.group(2) + ";\n" + answer(name, call.group(3));
    }

    private static String answer(String got, String want) {
        return "answers.add(new Object[] {\"" + got + "\", (long) (" + got + "), (long) (" + want + ")});";
    }

    private static void runExample(Path work, String source) throws Exception {
        Path file = work.resolve("Example.java");
        Files.writeString(file, source);
        int compiled = ToolProvider.getSystemJavaCompiler().run(null, null, null, "-d", work.toString(), "-cp",
                System.getProperty("java.class.path"), file.toString());
        Check.due("compiling the examples", compiled, 0);
        if (compiled == 0) {
            try (URLClassLoader loader = new URLClassLoader(new URL[] {work.toUri().toURL()})) {
                Method ask = loader.loadClass("Example").getMethod("ask", List.class);
                List<Object[]> answers = new ArrayList<>();
                ask.invoke(null, answers);
                for (Object[] answer : answers) {
                    Check.due((String) answer[0], (Long) answer[1], (Long) answer[2]);
                }
            }
        }
    }

    private static void remove(Path work) throws IOException {
        for (String name : new String[] {"Example.java", "Example.class"}) {
            Files.deleteIfExists(work.resolve(name));
        }
        Files.deleteIfExists(work);
    }
}
