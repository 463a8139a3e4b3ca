import java.io.IOException;
import java.lang.reflect.Constructor;
import java.lang.reflect.Field;
import java.lang.reflect.Method;
import java.lang.reflect.Modifier;
import java.nio.file.Files;
import java.nio.file.Path;
import java.util.Set;
import java.util.TreeSet;

/** LANGUAGE.md, as far as a test can see it: the face, static state, names, parameters, and words that are ruled out. */
public final class FaceTest {
    private static final Set<String> METHODS = Set.of("days", "feed", "end", "fault", "text", "worth", "part", "span",
        "sum", "heard", "read", "left", "most", "alike", "goes", "could", "sets", "look", "done", "clean", "narrows",
        "nothing", "plan", "judge", "leans", "fits", "next", "house", "print", "had", "letter", "knows", "met",
        "sooner", "even", "say", "count");
    private static final String[] RULED_OUT = {"Exact(", "finally", "synchronized", "assert ", "Math.random", "Random",
        "System.out", "System.err", "System.exit", "currentTimeMillis", "nanoTime", "java.io", "java.nio", "HashMap",
        "hashCode", "printStackTrace", "getMessage", "package ", "protected ", "static {", "::", "Thread",
        "catch (Exception", "catch (Throwable", "catch (RuntimeException", "catch (IndexOutOfBoundsException",
        "catch (ArithmeticException", "ArrayIndexOutOfBoundsException", "NullPointerException", "ClassCastException",
        "NegativeArraySizeException", "ArrayStoreException", "->", "yield "};
    private static final Set<String> IMPORTS = Set.of("import java.util.Arrays;",
        "import java.util.NoSuchElementException;");
    private static final int LONGEST_METHOD = 60;

    public static void main(String[] args) throws IOException {
        methods();
        fieldsAndConstructors();
        insideClasses();
        words();
        lines();
        Due.end();
    }

    private static void methods() {
        Set<String> open = new TreeSet<>();
        for (Method method : HissHorn.class.getDeclaredMethods()) {
            boolean shut = Modifier.isPrivate(method.getModifiers());
            if (!shut) open.add(method.getName());
            Due.is(method + " is public or private", Modifier.isPublic(method.getModifiers()) || shut, true);
            Due.is(method + " bears a name of the face", METHODS.contains(method.getName()), !shut);
        }
        Due.is("all methods of the face: " + open, open.equals(new TreeSet<>(METHODS)), true);
    }

    private static void fieldsAndConstructors() {
        for (Field field : HissHorn.class.getDeclaredFields()) {
            boolean face = field.getName().equals("NONE") || field.getName().equals("HIDDEN");
            Due.is(field + " is public", Modifier.isPublic(field.getModifiers()), face);
            Due.is(field + " is private", Modifier.isPrivate(field.getModifiers()), !face);
        }
        Constructor<?>[] constructors = HissHorn.class.getDeclaredConstructors();
        Due.is("constructors", constructors.length, 1);
        Due.is("public and final", HissHorn.class.getModifiers(), Modifier.PUBLIC | Modifier.FINAL);
    }

    private static void insideClasses() {
        Class<?>[] inside = HissHorn.class.getDeclaredClasses();
        Due.is("at most twelve classes", inside.length + 1 <= 12, true);
        for (Class<?> one : inside) {
            Due.is(one + " is static", Modifier.isStatic(one.getModifiers()), true);
            int fields = 0;
            for (Field field : one.getDeclaredFields()) {
                boolean constant = Modifier.isStatic(field.getModifiers());
                Due.is(field + " is final if static", !constant || Modifier.isFinal(field.getModifiers()), true);
                if (!constant) fields++;
            }
            Due.is(one + " has at most twenty fields", fields <= 20, true);
            for (Method method : one.getDeclaredMethods()) {
                boolean shut = Modifier.isPrivate(method.getModifiers());
                Due.is(method + " bears a name of the face", shut && METHODS.contains(method.getName()), false);
                Due.is(method + " takes at most seven", method.getParameterCount() <= 7, true);
            }
        }
    }

    private static void words() throws IOException {
        String source = Files.readString(Path.of("src/main/java/HissHorn.java"));
        for (String word : RULED_OUT) {
            Due.is("the source has '" + word + "'", source.contains(word), false);
        }
        for (int i = 0; i < source.length(); i++) {
            if (source.charAt(i) > 127) {
                Due.is("a sign of the source", source.charAt(i), 127);
            }
        }
    }

    /** Methods begin and end at the one indent of their class. */
    private static void lines() throws IOException {
        int begin = 0;
        int at = 0;
        int thrown = 0;
        for (String line : Files.readAllLines(Path.of("src/main/java/HissHorn.java"))) {
            at++;
            if (line.startsWith("import")) Due.is(line + " is of the library", IMPORTS.contains(line), true);
            if (line.endsWith(") {") && line.matches(" {4}( {4})?[a-zA-Z].*")) begin = at;
            if (line.matches(" {4}( {4})?}") && begin > 0) {
                Due.is("the method of line " + begin + " is short", at - begin + 1 <= LONGEST_METHOD, true);
                begin = 0;
            }
            if (line.contains("throw new")) thrown++;
        }
        Due.is("only worth throws", thrown, 1);
    }
}
