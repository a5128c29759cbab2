import java.io.IOException;
import java.lang.reflect.Method;
import java.lang.reflect.Modifier;
import java.net.URL;
import java.net.URLClassLoader;
import java.nio.file.Files;
import java.nio.file.Path;
import java.util.List;
import java.util.regex.Matcher;
import java.util.regex.Pattern;
import java.util.stream.Stream;
import javax.tools.ToolProvider;

/** Makes the calls of README.md, compiled as they stand there: each must answer what stands behind it. */
public final class ReadmeTest {
    private static final Check CHECK = new Check();
    private static final Pattern BLOCK = Pattern.compile("```java\n(.*?)```", Pattern.DOTALL);
    private static final Pattern CALL = Pattern.compile("((?:x\\.|lie)\\w*\\(.*\\));\\s*// (throws \\w+|[^\\s:]+)(:.*)?");

    public static void main(String[] args) throws Exception {
        String readme = Files.readString(Path.of("README.md"));
        StringBuilder methods = new StringBuilder();
        StringBuilder calls = new StringBuilder();
        Matcher block = BLOCK.matcher(readme);
        while (block.find()) {
            if (block.group(1).startsWith("static")) {
                methods.append(block.group(1));
            } else {
                block.group(1).lines().forEach(line -> calls.append(asked(line)).append('\n'));
            }
        }
        run(methods.toString(), calls.toString());
        allMethods(calls.toString());
        allTests(readme);
        CHECK.end();
    }

    /** A line of calls: without an answer as it stands, else compared with that. */
    private static String asked(String line) {
        Matcher call = CALL.matcher(line);
        if (!call.matches()) {
            CHECK.holds("an answer behind: " + line, line.startsWith("OralOrders x = "));
            return line;
        }
        String code = call.group(1);
        String due = call.group(2);
        String name = "\"README: " + code.replace("\"", "'") + "\"";
        if (due.startsWith("throws ")) {
            String how = due.equals("throws NoSuchElementException") ? "noSuch" : "illegal";
            CHECK.holds(line, how.equals("noSuch") || due.equals("throws IllegalArgumentException"));
            return "check." + how + "(" + name + ", () -> { " + code + "; return 0; });";
        }
        return "due(check, " + name + ", " + code + ", " + due + ");";
    }

    private static String source(String methods, String calls) {
        return "public final class ReadmeCalls {\n" + methods
                + "static int bits(double x) { return Float.floatToIntBits((float) x); }\n"
                + "static long doubleBits(double x) { return Double.doubleToLongBits(x); }\n"
                + "static void due(Check check, String call, long got, long due) { check.same(call, got, due); }\n"
                + "static void due(Check check, String call, boolean got, boolean due) {"
                + " check.same(call, got ? 1 : 0, due ? 1 : 0); }\n"
                + "public static void main(String[] args) {\nCheck check = new Check();\n" + calls
                + "check.end();\n}\n}\n";
    }

    /** Ends the test by itself, if a call answers wrong. */
    private static void run(String methods, String calls) throws Exception {
        String path = System.getProperty("java.class.path");
        Path folder = Files.createTempDirectory("readme");
        Path file = Files.writeString(folder.resolve("ReadmeCalls.java"), source(methods, calls));
        // The folder last: what is told first is deleted last.
        for (Path made : List.of(folder, file, folder.resolve("ReadmeCalls.class"))) {
            made.toFile().deleteOnExit();
        }
        int faults = ToolProvider.getSystemJavaCompiler().run(null, null, null, "-encoding", "UTF-8", "-cp",
                path, "-d", folder.toString(), file.toString());
        CHECK.same("compiling the calls of README.md", faults, 0);
        if (faults == 0) {
            // All loaded anew by one loader: Check is seen inside its own package alone.
            URL[] all = {folder.toUri().toURL(), Path.of(path).toUri().toURL()};
            try (URLClassLoader loader = new URLClassLoader(all, ClassLoader.getPlatformClassLoader())) {
                loader.loadClass("ReadmeCalls").getMethod("main", String[].class)
                        .invoke(null, (Object) new String[0]);
            }
        }
    }

    private static void allMethods(String calls) {
        for (Method m : OralOrders.class.getDeclaredMethods()) {
            if (Modifier.isPublic(m.getModifiers())) {
                CHECK.holds("README shows " + m.getName(), calls.contains("x." + m.getName() + "("));
            }
        }
    }

    private static void allTests(String readme) throws IOException {
        try (Stream<Path> tests = Files.list(Path.of("src/test/java"))) {
            tests.map(path -> path.getFileName().toString()).filter(name -> name.endsWith("Test.java"))
                    .forEach(name -> CHECK.holds("README tells of " + name,
                            readme.contains("`" + name.replace(".java", "") + "`")));
        }
        CHECK.holds("README tells how the tests are run", readme.contains("    .ci/run\n"));
    }
}
