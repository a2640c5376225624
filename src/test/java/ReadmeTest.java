import java.io.IOException;
import java.lang.reflect.Field;
import java.lang.reflect.Method;
import java.lang.reflect.Modifier;
import java.net.URL;
import java.net.URLClassLoader;
import java.nio.file.Files;
import java.nio.file.Path;
import java.util.regex.Matcher;
import java.util.regex.Pattern;
import java.util.stream.Stream;
import javax.tools.ToolProvider;

/**
 * Whether README.md is true of the class as it stands: its examples are compiled and run, and each
 * call in them must answer the number that stands behind it; its names must be those of the class.
 */
public final class ReadmeTest {
    private static final Path README = Path.of("README.md");
    private static final Path TESTS = Path.of("src/test/java");
    private static final Pattern EXAMPLE = Pattern.compile("(?s)```java\n(.*?)```");
    private static final Pattern ANSWERED = Pattern.compile(
            "(int \\w+ = )?(bench\\.\\w+\\(.*\\)); +// (-?\\d+)\\b.*");
    private static final Pattern UNANSWERED = Pattern.compile(
            "PolyominoCover bench = new PolyominoCover\\(\\);"
            + "|\"[^\"]+\"\\.chars\\(\\)\\.forEach\\(bench::appendCharacter\\);");

    private static int wrong = 0;
    private static int answers = 0;

    private static void complain(String what) {
        wrong++;
        System.out.println(what);
    }

    /** Called by the examples, once they are compiled. */
    public static int due(String call, int got, int want) {
        answers++;
        if (got != want) {
            complain(call + " answered " + got + ", README.md says " + want);
        }
        return got;
    }

    private static String withChecks(String line) {
        Matcher answered = ANSWERED.matcher(line);
        if (answered.matches()) {
            String declaration = answered.group(1) == null ? "" : answered.group(1);
            String call = answered.group(2);
            return declaration + "ReadmeTest.due(\"" + call.replace("\"", "\\\"") + "\", " + call
                    + ", " + answered.group(3) + ");";
        }
        if (!UNANSWERED.matcher(line).matches()) {
            complain("no answer stands behind: " + line);
        }
        return line;
    }

    private static String examplesAsClass(String readme) {
        StringBuilder source = new StringBuilder("public final class ReadmeExamples {\n");
        Matcher example = EXAMPLE.matcher(readme);
        for (int number = 0; example.find(); number++) {
            source.append("public static void example").append(number).append("() {\n");
            for (String line : example.group(1).split("\n")) {
                source.append(withChecks(line)).append('\n');
            }
            source.append("}\n");
        }
        return source.append("}\n").toString();
    }

    private static void runExamples(String readme) throws Exception {
        Path room = Files.createTempDirectory("readme");
        Path source = room.resolve("ReadmeExamples.java");
        Files.writeString(source, examplesAsClass(readme));
        int failed = ToolProvider.getSystemJavaCompiler().run(null, null, null, "-d",
                room.toString(), "-cp", System.getProperty("java.class.path"), source.toString());
        if (failed == 0) {
            try (URLClassLoader loader = new URLClassLoader(new URL[] {room.toUri().toURL()})) {
                for (Method example : loader.loadClass("ReadmeExamples").getDeclaredMethods()) {
                    example.invoke(null);
                }
            }
        } else {
            complain("the examples can't be compiled");
        }
        try (Stream<Path> files = Files.list(room)) {
            for (Path file : files.toList()) {
                Files.delete(file);
            }
        }
        Files.delete(room);
    }

    private static void lookAtFace(String readme) throws IllegalAccessException {
        for (Method method : PolyominoCover.class.getDeclaredMethods()) {
            if (Modifier.isPublic(method.getModifiers())
                    && !Pattern.compile("\\b" + method.getName() + "\\(").matcher(readme).find()) {
                complain("README.md does not show " + method.getName() + "()");
            }
        }
        for (Field field : PolyominoCover.class.getDeclaredFields()) {
            if (Modifier.isPublic(field.getModifiers())) {
                Pattern row = Pattern.compile("\\| `" + field.getName() + "` +\\| "
                        + field.getInt(null) + " +\\|");
                if (!row.matcher(readme).find()) {
                    complain("README.md does not tell the value of " + field.getName());
                }
            }
        }
    }

    private static void lookAtTestNames(String readme) throws IOException {
        try (Stream<Path> files = Files.list(TESTS)) {
            for (Path file : files.toList()) {
                String name = file.getFileName().toString().replace(".java", "");
                if (name.endsWith("Test") && !readme.contains("`" + name + "`")) {
                    complain("README.md does not say what " + name + " is for");
                }
            }
        }
        Matcher named = Pattern.compile("\\b(\\w+Test)`|((?:src|\\.\\.)/[\\w/]+\\.\\w+)")
                .matcher(readme);
        while (named.find()) {
            Path file = named.group(1) == null ? Path.of(named.group(2))
                    : TESTS.resolve(named.group(1) + ".java");
            if (!Files.exists(file)) {
                complain("README.md names " + named.group() + ", which is not there");
            }
        }
    }

    public static void main(String[] args) throws Exception {
        String readme = Files.readString(README);
        runExamples(readme);
        lookAtFace(readme);
        lookAtTestNames(readme);
        if (answers == 0) {
            complain("README.md has no examples");
        }
        System.out.println(wrong == 0 ? "all " + answers + " answers on the page are as due"
                : wrong + " things on the page are not as due");
        if (wrong != 0) {
            System.exit(1);
        }
    }
}
