import java.io.IOException;
import java.lang.reflect.Constructor;
import java.lang.reflect.Field;
import java.lang.reflect.Method;
import java.lang.reflect.Modifier;
import java.nio.file.Files;
import java.nio.file.Path;
import java.util.Arrays;
import java.util.Set;
import java.util.TreeSet;

/** The public face of the document and no more, and no word that LANGUAGE.md rules out. */
public final class FaceTest {
    private static final Set<String> FACE = Set.of(
            "boolean write(char)", "int network()", "int router(int)", "boolean power(int, boolean)",
            "int node(int, int)", "int name(int)", "boolean drop(int)", "int lookup(int)", "int found(int)",
            "int tick()", "int route(int, int)", "int hops(int, int)", "int open(int, int)",
            "int command(int, int, int, int)", "int status(int)", "int reply(int)", "int missing(int)",
            "int ledger(int, int)", "void faults(int)", "int packets()");
    private static final String[] RULED_OUT = {"throw", "throws", "try", "catch", "finally", "synchronized", "assert",
        "import", "package", "volatile", "native", "hashCode", "toLowerCase", "format", "Random", "Thread", "System",
        "Object", "record"};

    private static String arguments(Class<?>[] types) {
        return Arrays.stream(types).map(Class::getName).reduce((a, b) -> a + ", " + b).orElse("");
    }

    private static void members() {
        Set<String> open = new TreeSet<>();
        Set<String> hidden = new TreeSet<>();
        for (Method m : ZoneNet.class.getDeclaredMethods()) {
            if (Modifier.isPrivate(m.getModifiers())) {
                hidden.add(m.getName());
            } else {
                open.add(m.getReturnType() + " " + m.getName() + "(" + arguments(m.getParameterTypes()) + ")");
                Check.due(m + " is public and not static", true, (m.getModifiers() & ~Modifier.PUBLIC) == 0);
            }
        }
        Check.due("the methods are " + open, true, open.equals(FACE));
        for (String method : FACE) {
            String name = method.substring(method.indexOf(' ') + 1, method.indexOf('('));
            Check.due("a private " + name, false, hidden.contains(name));
        }
        Constructor<?>[] made = ZoneNet.class.getDeclaredConstructors();
        Check.due("constructors", 1, made.length);
        Check.due("its arguments", true, arguments(made[0].getParameterTypes()).equals("int, int, int"));
        for (Field f : ZoneNet.class.getDeclaredFields()) {
            Check.due(f + " is private", true, Modifier.isPrivate(f.getModifiers()));
        }
        Check.due("public and final", Modifier.PUBLIC | Modifier.FINAL, ZoneNet.class.getModifiers());
    }

    private static void classesInside() {
        Class<?>[] inside = ZoneNet.class.getDeclaredClasses();
        Check.due(inside.length + " classes inside are few", true, inside.length < 12);
        for (Class<?> c : inside) {
            Check.due(c + " is static", true, Modifier.isStatic(c.getModifiers()));
        }
        for (Field f : ZoneNet.class.getDeclaredFields()) {
            boolean fine = !Modifier.isStatic(f.getModifiers()) || Modifier.isFinal(f.getModifiers());
            Check.due(f + " is final if it is static", true, fine);
        }
    }

    private static void words() throws IOException {
        String source = Files.readString(Path.of("src/main/java/ZoneNet.java"));
        String code = source.replaceAll("(?s)/\\*.*?\\*/", " ").replaceAll("//[^\n]*", " ");
        Set<String> words = new TreeSet<>(Arrays.asList(code.split("[^A-Za-z0-9_]+")));
        for (String word : RULED_OUT) {
            Check.due("the word " + word, false, words.contains(word));
        }
        Check.due("a lambda", false, code.contains("->"));
        Check.due("a method reference", false, code.contains("::"));
    }

    public static void main(String[] args) throws IOException {
        members();
        classesInside();
        words();
        Check.end();
    }
}
