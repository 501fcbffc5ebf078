import java.io.IOException;
import java.lang.reflect.Method;
import java.lang.reflect.Modifier;
import java.net.URL;
import java.net.URLClassLoader;
import java.nio.file.Files;
import java.nio.file.Path;
import java.util.List;
import java.util.Map;
import java.util.Set;
import java.util.TreeMap;
import java.util.TreeSet;
import java.util.regex.Matcher;
import java.util.regex.Pattern;
import javax.tools.ToolProvider;

/** The calls that README.md gives as an example of use, as they stand there, answer what it says behind them. */
public final class ReadmeTest {
    private static final Pattern CALL = Pattern.compile("net\\.(\\w+)\\((.*?)\\);");
    private static final Pattern ANSWER = Pattern.compile("(true|false|-?\\d+)\\b");
    private static final Path FOLDER = Path.of("build/readme");

    private static final Map<String, Class<?>> FACE = new TreeMap<>();
    private static final Set<String> USED = new TreeSet<>();
    private static final Map<Integer, String> LINES = new TreeMap<>();
    private static final Map<Integer, String> DUE = new TreeMap<>();
    private static final Set<Integer> REACHED = new TreeSet<>();

    /** The example calls this with each answer; it is public since the example has a class loader of its own. */
    public static int say(int line, int answer) {
        compare(line, String.valueOf(answer));
        return answer;
    }

    public static boolean say(int line, boolean answer) {
        compare(line, String.valueOf(answer));
        return answer;
    }

    private static void compare(int line, String answer) {
        REACHED.add(line);
        Check.due("README.md, line " + line + ": " + LINES.get(line) + " [the answer was " + answer + "]",
                true, answer.equals(DUE.get(line)));
    }

    private static void readFace() {
        for (Method m : ZoneNet.class.getDeclaredMethods()) {
            if (Modifier.isPublic(m.getModifiers())) {
                FACE.put(m.getName(), m.getReturnType());
            }
        }
    }

    /** The lines of the example as the body of a method, each call that answers being put into say. */
    private static String body() throws IOException {
        StringBuilder body = new StringBuilder();
        boolean inside = false;
        List<String> readme = Files.readAllLines(Path.of("README.md"));
        for (int i = 0; i < readme.size(); i++) {
            String line = readme.get(i);
            if (line.startsWith("```")) {
                inside = line.equals("```java");
            } else if (inside) {
                body.append(asked(i + 1, line)).append('\n');
            }
        }
        return body.toString();
    }

    private static String asked(int number, String line) {
        int slashes = line.indexOf("//");
        String code = slashes < 0 ? line : line.substring(0, slashes);
        String comment = slashes < 0 ? "" : line.substring(slashes + 2).trim();
        LINES.put(number, line);
        StringBuilder asked = new StringBuilder();
        Matcher call = CALL.matcher(code);
        int calls = 0;
        while (call.find()) {
            calls++;
            USED.add(call.group(1));
            boolean answers = FACE.get(call.group(1)) != void.class;
            if (answers) {
                expect(number, comment);
            }
            String plain = "net." + call.group(1) + "(" + call.group(2) + ")";
            String put = answers ? "ReadmeTest.say(" + number + ", " + plain + ");" : plain + ";";
            call.appendReplacement(asked, Matcher.quoteReplacement(put));
        }
        call.appendTail(asked);
        // So that no call stands in a form that goes by unseen.
        Check.due("calls read on README.md, line " + number + ": " + line, code.split("net\\.", -1).length - 1, calls);
        return asked.toString();
    }

    private static void expect(int number, String comment) {
        Matcher answer = ANSWER.matcher(comment);
        boolean said = answer.lookingAt();
        Check.due("README.md, line " + number + " says an answer: " + LINES.get(number), true, said);
        DUE.put(number, said ? answer.group(1) : "");
    }

    private static void run(String body) throws IOException, ReflectiveOperationException {
        Files.createDirectories(FOLDER);
        Path source = FOLDER.resolve("ReadmeExample.java");
        Files.writeString(source, "public final class ReadmeExample {\npublic static void run() {\n" + body + "}\n}\n");
        int failed = ToolProvider.getSystemJavaCompiler().run(null, null, null, "--release", "17",
                "-cp", System.getProperty("java.class.path"), "-d", FOLDER.toString(), source.toString());
        Check.due("compiling the example of README.md", 0, failed);
        if (failed == 0) {
            try (URLClassLoader loader = new URLClassLoader(new URL[] {FOLDER.toUri().toURL()})) {
                loader.loadClass("ReadmeExample").getMethod("run").invoke(null);
            }
        }
    }

    public static void main(String[] args) throws IOException, ReflectiveOperationException {
        readFace();
        run(body());
        Check.due("README.md uses " + USED, true, USED.equals(FACE.keySet()));
        Check.due("lines reached: " + REACHED + " of " + DUE.keySet(), true, REACHED.equals(DUE.keySet()));
        Check.end();
    }
}
