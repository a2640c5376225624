import java.io.IOException;
import java.nio.file.Files;
import java.nio.file.Path;

/**
 * What the boundary tests have in common. Each of their checks stands under the sentence of the
 * document that it tests, in the document's own words; SentencesTest looks whether a sentence has
 * been forgotten.
 */
abstract class Boundaries {
    static final int MIN = Integer.MIN_VALUE;
    static final int MAX = Integer.MAX_VALUE;
    static final int INVALID = -1;
    static final int ILLEGAL = -2;
    static final int NO_ROOM = -3;
    static final int UNFINISHED = -4;
    static final int NONE = -9;
    /** The promises have their own numbers; the section ahead of them has this one. */
    static final int DESCRIPTION = 0;
    static final int PROMISES = 29;
    /** The number given to the first section, which is no promise. */
    static final int WHAT_IT_IS = PROMISES + 1;

    static Bench bench = new Bench();

    private static String sentence = "";
    private static int wrong = 0;
    private static int checks = 0;
    private static final String[] SECTIONS = sections();

    /** The sections of the document by these numbers, without line breaks. */
    static String[] sections() {
        try {
            String[] parts = Files.readString(Path.of("../shared/DOC.md")).split("\n## ");
            String[] sections = new String[PROMISES + 2];
            for (String part : parts) {
                String plain = part.replaceAll("\\s+", " ");
                if (plain.startsWith("Description ")) {
                    sections[DESCRIPTION] = plain;
                } else if (plain.startsWith("What it is ")) {
                    sections[WHAT_IT_IS] = plain;
                } else if (plain.startsWith("Promise ")) {
                    sections[Integer.parseInt(plain.substring(8, plain.indexOf(':')))] = plain;
                }
            }
            return sections;
        } catch (IOException e) {
            throw new IllegalStateException("the document can't be read", e);
        }
    }

    /** Begins the checks of a sentence, with a new object. */
    static void say(int section, String words) {
        sentence = SECTIONS[section].split("[ :]")[0] + " " + section + ": " + words;
        if (!SECTIONS[section].contains(words)) {
            fail("this does not stand in the document");
        }
        fresh();
    }

    static void fail(String what) {
        wrong++;
        System.out.println(sentence + "\n    " + what);
    }

    static void fresh() {
        bench = new Bench();
    }

    /** Loads a text into a new object. */
    static void fresh(String text) {
        fresh();
        bench.append(text);
        int answer = bench.call("load");
        if (answer < 0) {
            fail("load() of " + text + " answered " + answer);
        }
    }

    static void expect(int want, int got, String what) {
        checks++;
        if (got != want) {
            fail(what + " answered " + got + ", due is " + want);
        }
    }

    static void due(int want, String name, int... arguments) {
        expect(want, bench.call(name, arguments), Bench.tell(name, arguments));
    }

    static void dueAll(String name, int... wants) {
        for (int argument = 0; argument < wants.length; argument++) {
            due(wants[argument], name, argument);
        }
    }

    /** The answer is due, and by this call nothing changes. The object itself is left alone. */
    static void unchanged(int want, String name, int... arguments) {
        Bench with = bench.again();
        Bench without = bench.again();
        expect(want, with.call(name, arguments), Bench.tell(name, arguments));
        checks++;
        if (!with.everything().equals(without.everything())) {
            fail(Bench.tell(name, arguments) + " has changed something");
        }
    }

    /**
     * One argument of a call (the others are in range) just below its range, just above it and far
     * off on both sides: INVALID_ARGUMENT, and nothing changes.
     */
    static void range(int index, int least, int most, String name, int... arguments) {
        for (int value : new int[] {least - 1, most + 1, MIN, MAX}) {
            int[] changed = arguments.clone();
            changed[index] = value;
            unchanged(INVALID, name, changed);
        }
    }

    static void finish() {
        System.out.println(wrong == 0 ? "all " + checks + " answers are as due"
                : wrong + " of " + checks + " answers are not as due");
        if (wrong != 0) {
            System.exit(1);
        }
    }
}
