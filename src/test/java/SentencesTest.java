import java.io.IOException;
import java.nio.file.Files;
import java.nio.file.Path;
import java.util.List;
import java.util.regex.Matcher;
import java.util.regex.Pattern;
import java.util.stream.Collectors;
import java.util.stream.Stream;

/**
 * Whether each sentence of the document stands over checks of a boundary test. What does not stand
 * there must be among the words that promise nothing by themselves.
 */
public final class SentencesTest {
    private static final Path TESTS = Path.of("src/test/java");
    private static final Pattern SAY = Pattern.compile(
            "say\\((DESCRIPTION|WHAT_IT_IS|\\d+), \"((?:[^\"\\\\]|\\\\.)*)\"\\);");
    private static final List<String> PROMISE_NOTHING = List.of("Description", "What it is",
        "The search for covers works as follows.", "The constants:",
        "The constructor and the methods follow, a promise each: the signature, then what it does.",
        "what later calls answer is free.", "board and pieces", "text", "covers",
        "placements of no use, proofs");

    private static int wrong = 0;

    private static String boundaryTests() throws IOException {
        try (Stream<Path> files = Files.list(TESTS)) {
            StringBuilder all = new StringBuilder();
            for (Path file : files.sorted().collect(Collectors.toList())) {
                if (file.getFileName().toString().endsWith("BoundaryTest.java")) {
                    all.append(Files.readString(file));
                }
            }
            // Texts that are joined over several lines become one.
            return all.toString().replaceAll("\"\\s*\\+\\s*\"", "");
        }
    }

    private static int numberOf(String section) {
        switch (section) {
            case "DESCRIPTION":
                return Boundaries.DESCRIPTION;
            case "WHAT_IT_IS":
                return Boundaries.WHAT_IT_IS;
            default:
                return Integer.parseInt(section);
        }
    }

    /** Takes what is quoted out of its section; a bar is left where it stood. */
    private static void strikeQuotes(String[] sections, String tests) {
        Matcher say = SAY.matcher(tests);
        int quotes = 0;
        while (say.find()) {
            int section = numberOf(say.group(1));
            String words = say.group(2).replace("\\\"", "\"");
            if (!sections[section].contains(words)) {
                complain(section, "this is said twice, or not in the document: " + words);
            }
            sections[section] = sections[section].replace(words, "\n");
            quotes++;
        }
        System.out.println(quotes + " sentences have checks of their own");
    }

    private static void complain(int section, String what) {
        wrong++;
        System.out.println("section " + section + ": " + what);
    }

    private static void lookAtTheRest(int section, String rest) {
        String body = rest.replaceFirst("^Promise \\d+: [^`]*`[^`]*`", "\n").replace("---- ", "\n")
                .replaceAll(" - ", "\n");
        if (section == Boundaries.WHAT_IT_IS) {
            // What the class is for: the description says it again, and at length.
            body = body.replaceFirst("A workbench for [^.]*\\.", "\n");
        }
        for (String piece : body.split("\n")) {
            String words = piece.trim();
            if (!words.isEmpty() && !PROMISE_NOTHING.contains(words)) {
                complain(section, "this has no check: " + words);
            }
        }
    }

    public static void main(String[] args) throws IOException {
        String[] sections = Boundaries.sections();
        strikeQuotes(sections, boundaryTests());
        for (int section = 0; section < sections.length; section++) {
            lookAtTheRest(section, sections[section]);
        }
        System.out.println(wrong == 0 ? "no sentence is left" : wrong + " are not as due");
        if (wrong != 0) {
            System.exit(1);
        }
    }
}
