import java.io.IOException;
import java.lang.reflect.Method;
import java.lang.reflect.Modifier;
import java.net.URL;
import java.net.URLClassLoader;
import java.nio.file.Files;
import java.nio.file.Path;
import java.util.ArrayList;
import java.util.Comparator;
import java.util.List;
import java.util.regex.Matcher;
import java.util.regex.Pattern;
import java.util.stream.Stream;
import javax.tools.ToolProvider;

/** What README.md shows of calls and answers is what the class answers. */
public final class ReadmeTest {
    private static final Path README = Path.of("README.md");
    private static final Path TESTS = Path.of("src/test/java");
    private static final Pattern BLOCK = Pattern.compile("```java\n(.*?)```", Pattern.DOTALL);
    private static final Pattern SHOWN =
        Pattern.compile("(x\\.\\w+\\(.*\\)); +// (?:throws (\\w+)|(NONE)|(-?\\d+))(?::.*)?");
    private static final String TOLD = "static String told(java.util.function.LongSupplier call) {\n"
        + "try { return Long.toString(call.getAsLong()); }\n"
        + "catch (RuntimeException e) { return e.getClass().getSimpleName(); } }\n";

    private static final TestKit KIT = new TestKit("ReadmeTest");

    private final StringBuilder methods = new StringBuilder();
    private final StringBuilder statements = new StringBuilder();
    private final List<String> calls = new ArrayList<>();
    private final List<String> shown = new ArrayList<>();

    public static void main(String[] args) throws Exception {
        ReadmeTest test = new ReadmeTest();
        test.readBlocks(Files.readString(README));
        test.compareAnswers();
        test.everyCallIsShown();
        everyTestIsNamed();
        KIT.finish();
    }

    private void readBlocks(String readme) {
        Matcher m = BLOCK.matcher(readme);
        while (m.find()) {
            if (m.group(1).startsWith("static ")) {
                methods.append(m.group(1));
            } else {
                m.group(1).lines().forEach(this::readLine);
            }
        }
    }

    private void readLine(String line) {
        Matcher m = SHOWN.matcher(line);
        if (m.matches()) {
            calls.add(m.group(1));
            shown.add(m.group(2) != null ? m.group(2) : m.group(3) != null ? "-1" : m.group(4));
            statements.append("answers.add(told(() -> ").append(m.group(1)).append("));\n");
        } else {
            boolean isPlain = line.isEmpty() || line.startsWith("CoverExtract x = ") || line.startsWith("put(x, ");
            KIT.compare("'" + line + "' shows its answer", "true", Boolean.toString(isPlain));
            statements.append(line).append('\n');
        }
    }

    private void compareAnswers() throws Exception {
        List<String> answers = answers();
        KIT.compare("so many answers", Integer.toString(shown.size()), Integer.toString(answers.size()));
        for (int i = 0; i < answers.size() && i < shown.size(); i++) {
            KIT.compare(calls.get(i), shown.get(i), answers.get(i));
        }
    }

    private List<String> answers() throws Exception {
        Path room = Files.createTempDirectory("readme");
        try {
            Path source = room.resolve("Shown.java");
            Files.writeString(source, "public final class Shown {\n" + methods + TOLD
                + "public static java.util.List<String> answers() {\n"
                + "java.util.List<String> answers = new java.util.ArrayList<>();\n"
                + statements + "return answers; } }\n");
            int failed = ToolProvider.getSystemJavaCompiler().run(null, null, null, "-d", room.toString(),
                "-cp", System.getProperty("java.class.path"), source.toString());
            KIT.compare("README.md's code compiles", "0", Integer.toString(failed));
            return failed == 0 ? run(room) : List.of();
        } finally {
            remove(room);
        }
    }

    private static List<String> run(Path room) throws Exception {
        List<String> answers = new ArrayList<>();
        try (URLClassLoader loader = new URLClassLoader(new URL[] {room.toUri().toURL()})) {
            for (Object answer : (List<?>) loader.loadClass("Shown").getMethod("answers").invoke(null)) {
                answers.add(answer.toString());
            }
        }
        return answers;
    }

    private static void remove(Path room) throws IOException {
        try (Stream<Path> files = Files.walk(room)) {
            for (Path file : files.sorted(Comparator.reverseOrder()).toList()) {
                Files.delete(file);
            }
        }
    }

    private void everyCallIsShown() {
        for (Method m : CoverExtract.class.getDeclaredMethods()) {
            if (Modifier.isPublic(m.getModifiers())) {
                String call = "x." + m.getName() + "(";
                boolean isShown = calls.stream().anyMatch(c -> c.startsWith(call)) || methods.indexOf(call) >= 0;
                KIT.compare(call + ") is shown", "true", Boolean.toString(isShown));
            }
        }
    }

    private static void everyTestIsNamed() throws IOException {
        String readme = Files.readString(README);
        KIT.compare("README.md tells how to run the tests", "true", Boolean.toString(readme.contains("`.ci/run`")));
        try (Stream<Path> files = Files.list(TESTS)) {
            for (Path file : files.sorted().toList()) {
                String name = file.getFileName().toString().replace(".java", "");
                if (name.endsWith("Test")) {
                    KIT.compare(name + " is named", "true", Boolean.toString(readme.contains("`" + name + "`")));
                }
            }
        }
    }
}
