import java.io.IOException;
import java.lang.reflect.Method;
import java.lang.reflect.Modifier;
import java.net.URL;
import java.net.URLClassLoader;
import java.nio.file.Files;
import java.nio.file.Path;
import java.util.regex.Matcher;
import java.util.regex.Pattern;
import javax.tools.ToolProvider;

/** What README.md shows of the use of the class is so: its blocks are compiled, run, and asked for each answer. */
public final class ReadmeTest {
    private static final Path README = Path.of("README.md");
    private static final Pattern BLOCK = Pattern.compile("(?s)```java\n(.*?)```");
    private static final Pattern CALL = Pattern.compile("inn\\.(\\w+)\\(");
    private static final Pattern ANSWERED = Pattern.compile("(inn\\.\\w+\\(.*?\\)); +// (throws )?([-\\w]+)(:.*)?");

    private ReadmeTest() {
    }

    public static void main(String[] args) throws Exception {
        String readme = Files.readString(README);
        StringBuilder members = new StringBuilder();
        StringBuilder body = new StringBuilder();
        Matcher block = BLOCK.matcher(readme);
        while (block.find()) {
            if (block.group(1).startsWith("static ")) {
                members.append(block.group(1));
            } else {
                block.group(1).lines().forEach(line -> body.append(asked(line)).append('\n'));
            }
        }
        eachCallIsShown(body.toString());
        pathsAreThere(readme);
        run("import java.util.ArrayList;\nimport java.util.List;\npublic final class ReadmeRun {\n"
            + "static final List<String[]> SEEN = new ArrayList<>();\n"
            + "static void seen(String call, Object got, Object want) {\n"
            + "SEEN.add(new String[] {call, String.valueOf(got), String.valueOf(want)});\n}\n"
            + members + "public static List<String[]> run() {\n" + body + "return SEEN;\n}\n}\n");
        Inn.close("ReadmeTest");
    }

    /** A line as it is, or a call with its answer as a question for that answer. */
    private static String asked(String line) {
        Matcher m = ANSWERED.matcher(line);
        if (!m.matches()) {
            boolean answers = line.startsWith("inn.") && !line.matches("inn\\.(image|weigh)\\(.*\\);");
            Inn.due("a call with its answer: " + line, !answers && !line.contains("//"), true);
            return line;
        }
        String call = m.group(1);
        String want = m.group(3).equals("NONE") ? "PinInn.NONE" : m.group(3);
        if (m.group(2) == null) {
            return "seen(\"" + call + "\", " + call + ", " + want + ");";
        }
        return "try { seen(\"" + call + "\", " + call + ", \"" + want + "\"); } catch (RuntimeException e) { seen(\""
            + call + "\", e.getClass().getSimpleName(), \"" + want + "\"); }";
    }

    private static void eachCallIsShown(String body) {
        for (Method method : PinInn.class.getDeclaredMethods()) {
            if (Modifier.isPublic(method.getModifiers())) {
                Matcher shown = CALL.matcher(body);
                boolean found = shown.results().anyMatch(r -> r.group(1).equals(method.getName()));
                Inn.due("README.md shows " + method.getName(), found, true);
            }
        }
    }

    /** Each file and each test that the page names is there. */
    private static void pathsAreThere(String readme) {
        Matcher named = Pattern.compile("`([^`\n]+)`").matcher(readme.replaceAll("(?s)```.*?```", ""));
        while (named.find()) {
            String name = named.group(1);
            if (name.matches("(\\.\\./|src/)?[\\w/.]+\\.(md|java)|\\.\\./shared[/\\w]*")) {
                Inn.due("README.md names " + name, Files.exists(Path.of(name)), true);
            } else if (name.matches("\\w+Test")) {
                Inn.due("README.md names " + name, Files.exists(Path.of("src/test/java/" + name + ".java")), true);
            }
        }
        try (var tests = Files.list(Path.of("src/test/java"))) {
            tests.map(file -> file.getFileName().toString().replace(".java", "")).filter(name -> name.endsWith("Test"))
                .forEach(name -> Inn.due("README.md tells of " + name, readme.contains("`" + name + "`"), true));
        } catch (IOException e) {
            throw new IllegalStateException(e);
        }
    }

    private static void run(String source) throws Exception {
        Path folder = Files.createTempDirectory("readme");
        Path file = folder.resolve("ReadmeRun.java");
        Path made = folder.resolve("ReadmeRun.class");
        Files.writeString(file, source);
        int failed = ToolProvider.getSystemJavaCompiler().run(null, null, null, "-proc:none", "-d", folder.toString(),
            "-cp", System.getProperty("java.class.path"), file.toString());
        Inn.due("what README.md shows compiles", failed, 0);
        if (failed == 0) {
            try (URLClassLoader loader = new URLClassLoader(new URL[] {folder.toUri().toURL()})) {
                Iterable<?> seen = (Iterable<?>) loader.loadClass("ReadmeRun").getMethod("run").invoke(null);
                for (Object one : seen) {
                    String[] row = (String[]) one;
                    Inn.due("README.md: " + row[0] + " answers " + row[1] + ", told is " + row[2], row[1].equals(row[2]), true);
                }
            }
        }
        Files.deleteIfExists(made);
        Files.deleteIfExists(file);
        Files.deleteIfExists(folder);
    }
}
