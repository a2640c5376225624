import java.lang.reflect.Method;
import java.util.ArrayList;
import java.util.Arrays;
import java.util.HashMap;
import java.util.List;
import java.util.Map;

/**
 * An object of the program that is called by the names of its methods and remembers its calls, so
 * that a second one in the same state can be made at any time.
 */
final class Bench {
    /** The document promises nothing about an object after so many calls. */
    static final int MOST_CALLS = 512;

    private record Call(String name, int[] arguments) { }

    private static final Map<String, Method> FACE = face();

    private final PolyominoCover tested = new PolyominoCover();
    private final List<Call> calls = new ArrayList<>();

    private static Map<String, Method> face() {
        Map<String, Method> face = new HashMap<>();
        for (Method method : PolyominoCover.class.getDeclaredMethods()) {
            face.put(method.getName(), method);
        }
        return face;
    }

    static String tell(String name, int... arguments) {
        String row = Arrays.toString(arguments);
        return name + "(" + row.substring(1, row.length() - 1) + ")";
    }

    int call(String name, int... arguments) {
        if (calls.size() == MOST_CALLS) {
            throw new IllegalStateException("a test makes too many calls on one object");
        }
        calls.add(new Call(name, arguments));
        Object[] boxed = Arrays.stream(arguments).boxed().toArray();
        try {
            return (Integer) FACE.get(name).invoke(tested, boxed);
        } catch (ReflectiveOperationException e) {
            throw new IllegalStateException(tell(name, arguments) + " can't be called", e);
        }
    }

    void append(String text) {
        for (char character : text.toCharArray()) {
            call("appendCharacter", character);
        }
    }

    int callCount() {
        return calls.size();
    }

    /** A new object after the same calls. */
    Bench again() {
        Bench other = new Bench();
        for (Call call : calls) {
            other.call(call.name, call.arguments);
        }
        return other;
    }

    /** Uses the object up: all its answers about the state, the text and the states for undo(). */
    String everything() {
        StringBuilder all = new StringBuilder();
        tellState(all);
        for (String name : new String[] {"covers", "tries", "classes", "fewest", "proof"}) {
            note(all, name);
        }
        note(all, "coverAt", 0, 0);
        note(all, "usefulAt", 0);
        if (note(all, "load") >= 0) {
            tellState(all);
        }
        note(all, "clearText");
        while (note(all, "undo") >= 0) {
            tellState(all);
        }
        return all.toString();
    }

    private void tellState(StringBuilder all) {
        for (int what = 0; what <= 9; what++) {
            note(all, "count", what);
        }
        for (int cell = call("count", 0) * call("count", 1); cell >= 0; cell--) {
            note(all, "colour", cell);
        }
        for (int piece = call("count", 3) - 1; piece >= 0; piece--) {
            for (int what = 0; what <= 3; what++) {
                note(all, "piece", piece, what);
            }
        }
    }

    private int note(StringBuilder all, String name, int... arguments) {
        int answer = call(name, arguments);
        all.append(tell(name, arguments)).append(" = ").append(answer).append('\n');
        return answer;
    }
}
