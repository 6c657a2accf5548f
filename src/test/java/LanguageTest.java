import java.io.IOException;
import java.lang.reflect.Constructor;
import java.lang.reflect.Field;
import java.lang.reflect.Method;
import java.lang.reflect.Modifier;
import java.nio.file.Files;
import java.nio.file.Path;
import java.util.Arrays;
import java.util.HashSet;
import java.util.Set;
import java.util.TreeSet;
import java.util.regex.Matcher;
import java.util.regex.Pattern;

/** The public face, and the rules of LANGUAGE.md that can be seen without understanding the program. */
public final class LanguageTest {
    private static final String[] FACE = {
        "int alloc(int, int)", "int clearText()", "int collect()", "int count(int)", "int data(int, int)",
        "int distance(int)", "int fault()", "int field(int, int)", "int free(int)", "int garbage()", "int moved(int)",
        "int next(int)", "int object(int, int)", "int pin(int, boolean)", "int refusal()", "int report(int)",
        "int reset(int, int)", "int restore(int)", "int retained(int)", "int root(int)", "int run()", "int save(int)",
        "int setData(int, int, int)", "int setField(int, int, int)", "int setRoot(int, int)", "int setWeak(int, int)",
        "int type(int)", "int weak(int)", "long digest()"};

    public static void main(String[] args) throws IOException {
        constants();
        face();
        insideClasses();
        words(bare(Files.readString(Path.of("src/main/java/IslandHeap.java"))));
        Check.end();
    }

    private static void constants() {
        Check.due("BAD", IslandHeap.BAD, -1000002);
        Check.due("STATE", IslandHeap.STATE, -1000003);
        Check.due("FULL", IslandHeap.FULL, -1000004);
        Check.due("NONE", IslandHeap.NONE, -1);
    }

    private static void face() {
        Class<?> c = IslandHeap.class;
        Check.holds("public and final", Modifier.isPublic(c.getModifiers()) && Modifier.isFinal(c.getModifiers()));
        Set<String> open = new TreeSet<>();
        Set<String> names = new HashSet<>();
        for (Method m : c.getDeclaredMethods()) {
            if (!Modifier.isPrivate(m.getModifiers()) && !m.isSynthetic()) {
                Check.holds("only public: " + m, Modifier.isPublic(m.getModifiers()));
                Check.holds("not static: " + m, !Modifier.isStatic(m.getModifiers()));
                open.add(signature(m));
                names.add(m.getName());
            }
        }
        Check.holds("the face is " + open, open.equals(new TreeSet<>(Arrays.asList(FACE))));
        for (Method m : c.getDeclaredMethods()) {
            if (Modifier.isPrivate(m.getModifiers())) {
                Check.holds("a private method bears a public name: " + m, !names.contains(m.getName()));
            }
        }
        for (Constructor<?> k : c.getDeclaredConstructors()) {
            Check.holds("constructor " + k, Modifier.isPublic(k.getModifiers()) && k.getParameterCount() == 0);
        }
        for (Field f : c.getDeclaredFields()) {
            boolean named = Set.of("BAD", "STATE", "FULL", "NONE").contains(f.getName());
            Check.holds("field " + f, Modifier.isPublic(f.getModifiers()) == named
                    && Modifier.isPrivate(f.getModifiers()) != named);
            Check.holds("static and not final: " + f,
                    !Modifier.isStatic(f.getModifiers()) || Modifier.isFinal(f.getModifiers()));
        }
    }

    private static String signature(Method m) {
        StringBuilder s = new StringBuilder(m.getReturnType() + " " + m.getName() + "(");
        for (Class<?> p : m.getParameterTypes()) {
            s.append(s.charAt(s.length() - 1) == '(' ? "" : ", ").append(p);
        }
        return s.append(")").toString();
    }

    private static void insideClasses() {
        Class<?>[] inside = IslandHeap.class.getDeclaredClasses();
        Check.holds("at most twelve classes", inside.length < 12);
        for (Class<?> c : inside) {
            Check.holds("static: " + c, Modifier.isStatic(c.getModifiers()));
            Check.holds("not public: " + c, !Modifier.isPublic(c.getModifiers())
                    && !Modifier.isProtected(c.getModifiers()));
            Check.holds("no class deeper inside: " + c, c.getDeclaredClasses().length == 0);
            Check.holds("at most twenty fields: " + c, c.getDeclaredFields().length <= 20);
        }
    }

    /** The program without comments and signs in quotes. */
    private static String bare(String source) {
        return source.replaceAll("(?s)/\\*.*?\\*/", " ").replaceAll("//[^\n]*", " ").replaceAll("'(\\\\.|[^'])'", "0")
                .replaceAll("\"[^\"\n]*\"", "0");
    }

    private static void words(String source) {
        String[] forbidden = {"throw", "throws", "try", "catch", "finally", "synchronized", "assert", "package", "record",
            "volatile", "transient", "native", "protected", "System.out", "System.err", "System.exit", "Thread",
            "equals", "hashCode", "toString", "Object", "HashMap", "var", "interface", "abstract"};
        for (String word : forbidden) {
            Matcher m = Pattern.compile("\\b" + Pattern.quote(word) + "\\b").matcher(source);
            Check.holds("forbidden: " + word, !m.find());
        }
        Check.holds("no lambda", !source.contains("->"));
        Check.holds("no method reference", !source.contains("::"));
        Check.holds("no annotation", !source.contains("@"));
        Check.holds("no loop without a bound", !Pattern.compile("for *\\( *;|\\bwhile\\b").matcher(source).find());
        Matcher imports = Pattern.compile("import +(static +)?([\\w.*]+)").matcher(source);
        while (imports.find()) {
            Check.holds("import " + imports.group(2), Set.of("java.util.Arrays").contains(imports.group(2)));
        }
        Matcher calls = Pattern.compile("\\b(Arrays|System|Math|Integer|Long)\\.(\\w+)").matcher(source);
        Set<String> listed = Set.of("Arrays.fill", "System.arraycopy", "Math.max", "Math.min");
        while (calls.find()) {
            Check.holds("call of " + calls.group(), listed.contains(calls.group()));
        }
    }
}
