import java.lang.reflect.Constructor;
import java.lang.reflect.Field;
import java.lang.reflect.Method;
import java.lang.reflect.Modifier;
import java.nio.file.Files;
import java.nio.file.Path;
import java.util.Arrays;
import java.util.List;
import java.util.TreeSet;
import java.util.regex.Matcher;
import java.util.regex.Pattern;

/** The face of the document, and what of LANGUAGE.md can be seen without reading the program. */
public final class LanguageTest {
    private static final List<String> FACE = List.of("setBoard/2", "setHole/2", "setColour/2",
        "addPiece/3", "removePiece/1", "setCopies/2", "setMode/1", "setRule/1", "count/1",
        "colour/1", "piece/2", "form/2", "placement/2", "appendCharacter/1", "clearText/0",
        "load/0", "covers/0", "tries/0", "coverAt/2", "used/2", "classes/0", "alike/2",
        "fewest/0", "useful/1", "usefulAt/1", "proves/3", "proof/0", "undo/0");
    private static final List<String> CONSTANTS = List.of("INVALID_ARGUMENT", "ILLEGAL_STATE",
        "CAPACITY_EXCEEDED", "UNFINISHED", "NONE");

    private static int wrong = 0;

    private static void expect(boolean good, String what) {
        if (!good) {
            wrong++;
            System.out.println("not so: " + what);
        }
    }

    private static void face() {
        Class<?> face = PolyominoCover.class;
        expect(Modifier.isPublic(face.getModifiers()) && Modifier.isFinal(face.getModifiers()),
                "the class is public and final");
        TreeSet<String> methods = new TreeSet<>();
        for (Method method : face.getDeclaredMethods()) {
            if (!Modifier.isPrivate(method.getModifiers())) {
                methods.add(method.getName() + "/" + method.getParameterCount());
                expect(Modifier.isPublic(method.getModifiers())
                        && !Modifier.isStatic(method.getModifiers())
                        && method.getReturnType() == int.class
                        && Arrays.stream(method.getParameterTypes()).allMatch(t -> t == int.class),
                        method + " is of the face");
            } else {
                expect(FACE.stream().noneMatch(f -> f.startsWith(method.getName() + "/")),
                        "the private " + method + " has a name of its own");
            }
        }
        expect(methods.equals(new TreeSet<>(FACE)), "the methods are those of the document");
        for (Field field : face.getDeclaredFields()) {
            expect(Modifier.isPublic(field.getModifiers()) == CONSTANTS.contains(field.getName())
                    && (Modifier.isPublic(field.getModifiers())
                    || Modifier.isPrivate(field.getModifiers())), field + " is of the face");
        }
        Constructor<?>[] constructors = face.getDeclaredConstructors();
        expect(constructors.length == 1 && constructors[0].getParameterCount() == 0
                && Modifier.isPublic(constructors[0].getModifiers()), "there is one constructor");
        expect(face.getDeclaredClasses().length <= 11, "the file has at most twelve classes");
    }

    private static void nestedClasses() {
        for (Class<?> nested : PolyominoCover.class.getDeclaredClasses()) {
            expect(Modifier.isStatic(nested.getModifiers()), nested + " is static");
            int fields = 0;
            for (Field field : nested.getDeclaredFields()) {
                fields += Modifier.isStatic(field.getModifiers()) ? 0 : 1;
                expect(!Modifier.isStatic(field.getModifiers())
                        || Modifier.isFinal(field.getModifiers()), field + " is final");
            }
            expect(fields <= 20, nested + " has at most twenty fields");
            for (Method method : nested.getDeclaredMethods()) {
                expect(method.getParameterCount() <= 7, method + " has at most seven parameters");
            }
        }
    }

    private static String withoutComments(String source) {
        return source.replaceAll("(?s)/\\*.*?\\*/", "").replaceAll("//[^\n]*", "");
    }

    private static void words(String code) {
        String[] banned = {"throw", "throws", "try", "catch", "finally", "synchronized", "assert",
            "import", "package", "float", "double", "Object", "System", "Thread", "Random", "->",
            "::", "hashCode", "toString", "volatile", "native", "static \\{"};
        for (String word : banned) {
            String pattern = Character.isLetter(word.charAt(0)) ? "\\b" + word + "(?!\\w)" : word;
            expect(!Pattern.compile(pattern).matcher(code).find(), "no '" + word + "' stands there");
        }
        Matcher library = Pattern.compile("\\b(Integer|Long|Math)\\.(\\w+)").matcher(code);
        while (library.find()) {
            expect(List.of("bitCount", "min", "max").contains(library.group(2)),
                    library.group() + " is of the library that is allowed");
        }
    }

    /** All calls of a run share one room, so nothing is made but with the object itself. */
    private static void makesNothingLater(String code) {
        for (String line : code.split("\n")) {
            if (line.matches(".*\\bnew\\b.*")) {
                expect(line.matches("\\s*private final [\\w\\[\\]]+ \\w+ = new .*")
                        || line.contains("ring[slot] = new Problem();"),
                        "only the constructor makes objects: " + line.trim());
            }
        }
    }

    private static void methodLengths(String code) {
        String[] lines = code.split("\n");
        int start = 0;
        for (int i = 0; i < lines.length; i++) {
            if (lines[i].matches("( {4}| {8})\\w.*\\) \\{")) {
                start = i;
            }
            if (start > 0 && lines[i].equals(lines[start].replaceAll("\\S.*", "}"))) {
                expect(i - start <= 60, "at most some sixty lines: " + lines[start].trim());
            }
        }
    }

    public static void main(String[] args) throws Exception {
        face();
        nestedClasses();
        String code = withoutComments(
                Files.readString(Path.of("src/main/java/PolyominoCover.java")));
        words(code);
        makesNothingLater(code);
        methodLengths(code);
        System.out.println(wrong == 0 ? "all is as the rules want it" : wrong + " are not so");
        if (wrong != 0) {
            System.exit(1);
        }
    }
}
