import java.util.ArrayDeque;
import java.util.Deque;

/** The boundary cases of what is saved and undone, and of the codes that calls answer. */
public final class StateBoundaryTest extends Boundaries {
    /** A state in which each of the calls that save something is possible. */
    private static final String RICH = "1#./..2|oomc3x9|ot";

    private static final Object[][] CHANGES = {{"setBoard", 2, 2}, {"setBoard", 3, 2},
        {"setHole", 0, 1}, {"setHole", 1, 0}, {"setColour", 0, 3}, {"setColour", 0, 1},
        {"addPiece", 51, 2, 3}, {"removePiece", 0}, {"removePiece", 1}, {"setCopies", 0, 1},
        {"setCopies", 1, 1}, {"setMode", 1}, {"setMode", 0}, {"setRule", 1}, {"setRule", 0}};

    private static int[] argumentsOf(Object[] change) {
        int[] arguments = new int[change.length - 1];
        for (int i = 0; i < arguments.length; i++) {
            arguments[i] = (Integer) change[i + 1];
        }
        return arguments;
    }

    private static void saving() {
        say(DESCRIPTION, "Every successful call of setBoard(), setHole(), setColour(), addPiece(),"
                + " removePiece(), setCopies(), setMode(), setRule() and load() saves the state that"
                + " preceded it: the board, the pieces, the mode and the rule.");
        // Also those that set what is set already; and undo() brings all of the state back.
        for (Object[] change : CHANGES) {
            fresh(RICH);
            String name = (String) change[0];
            Bench before = bench.again();
            if (bench.call(name, argumentsOf(change)) < 0) {
                fail(Bench.tell(name, argumentsOf(change)) + " is not successful");
            }
            due(2, "count", 9);
            due(1, "undo");
            expectSame(before, Bench.tell(name, argumentsOf(change)));
        }
        fresh(RICH);
        Bench before = bench.again();
        bench.append(".|ooc1");
        due(1, "load");
        due(2, "count", 9);
        due(1, "undo");
        expectSame(before, "load()");
        // The text is not part of the state, neither in the one direction nor in the other.
        fresh();
        bench.append("..");
        bench.call("setBoard", 3, 3);
        bench.append("|");
        due(0, "undo");
        due(3, "clearText");
    }

    private static void expectSame(Bench before, String call) {
        if (!bench.everything().equals(before.everything())) {
            fail("undo() does not bring back all that was there ahead of " + call);
        }
    }

    private static void notSaving() {
        say(DESCRIPTION, "undo() restores the most recently saved state and discards it.");
        bench.call("setBoard", 1, 1);
        bench.call("setBoard", 2, 2);
        bench.call("setBoard", 3, 3);
        due(2, "undo");
        due(2, "count", 0);
        due(1, "undo");
        due(1, "count", 0);
        due(0, "undo");
        due(4, "count", 0);
        unchanged(ILLEGAL, "undo");
        // Texts and questions save nothing.
        fresh(RICH);
        bench.call("appendCharacter", '.');
        bench.call("clearText");
        bench.call("appendCharacter", '.');
        due(1, "count", 9);
        Object[][] questions = {{"count", 7}, {"colour", 0}, {"piece", 0, 0}, {"form", 0, 0},
            {"placement", 0, 0}, {"covers"}, {"tries"}, {"coverAt", 0, 0}, {"used", 0, 0},
            {"classes"}, {"alike", 0, 0}, {"fewest"}, {"useful", 0}, {"usefulAt", 0},
            {"proves", 1, 1, 2}, {"proof"}};
        for (Object[] question : questions) {
            int[] arguments = argumentsOf(question);
            int answer = bench.again().call((String) question[0], arguments);
            unchanged(answer, (String) question[0], arguments);
        }
    }

    /** The number of a board among all boards by their size. */
    private static void setBoard(int number) {
        bench.call("setBoard", 1 + number % 6, 1 + number / 6);
    }

    private static void boardIsDue(int number) {
        due(1 + number % 6, "count", 0);
        due(1 + number / 6, "count", 1);
    }

    private static void sixStates() {
        say(DESCRIPTION, "At most 6 states are saved; when a seventh is saved, the oldest one is"
                + " discarded.");
        for (int changes = 1; changes <= 20; changes++) {
            fresh();
            for (int number = 0; number < changes; number++) {
                setBoard(number);
                due(Math.min(number + 1, 6), "count", 9);
            }
            int saved = Math.min(changes, 6);
            for (int steps = 1; steps <= saved; steps++) {
                due(saved - steps, "undo");
                boardIsDue(steps == changes ? 21 : changes - 1 - steps);
            }
            unchanged(ILLEGAL, "undo");
        }
        // Back and forth, and all around whatever holds the six, as a list of boards would do it.
        fresh();
        Deque<Integer> saved = new ArrayDeque<>();
        int now = 21;
        for (int step = 0; step < 120; step++) {
            if (step * 7 % 11 < 7) {
                saved.addLast(now);
                if (saved.size() > 6) {
                    saved.removeFirst();
                }
                now = step % 36;
                setBoard(now);
            } else {
                int left = saved.isEmpty() ? ILLEGAL : saved.size() - 1;
                now = saved.isEmpty() ? now : saved.removeLast();
                due(left, "undo");
            }
            boardIsDue(now);
            due(saved.size(), "count", 9);
        }
    }

    private static void undoing() {
        say(29, "Restores the most recently saved state and discards it.");
        fresh(RICH);
        bench.call("setMode", 1);
        bench.call("setRule", 1);
        bench.call("setBoard", 6, 6);
        bench.call("removePiece", 0);
        bench.call("setHole", 35, 1);
        due(5, "undo");
        due(0, "colour", 35);
        due(4, "undo");
        due(2, "count", 3);
        due(3, "undo");
        dueAll("colour", 1, NONE, 0, 0, 0, 2, INVALID);
        due(1, "count", 5);
        due(2, "undo");
        due(0, "count", 5);
        due(1, "undo");
        due(0, "count", 4);
        due(0, "undo");
        dueAll("count", 4, 4, 16, 0, 0, 0, 0, 0, 8, 0);

        say(29, "Returns the number of states that are still saved; ILLEGAL_STATE if there is none.");
        unchanged(ILLEGAL, "undo");
        bench.call("setMode", 1);
        due(0, "undo");
        unchanged(ILLEGAL, "undo");
        due(0, "count", 4);
        for (int change = 0; change < 7; change++) {
            bench.call("setRule", 1);
        }
        for (int left = 5; left >= 0; left--) {
            due(left, "undo");
        }
        unchanged(ILLEGAL, "undo");
        due(1, "count", 5);
        // Refused calls save nothing.
        fresh();
        bench.call("setBoard", 7, 7);
        bench.call("setHole", 0, 0);
        bench.call("setColour", 16, 0);
        bench.call("addPiece", 0, 0, 0);
        bench.call("removePiece", 0);
        bench.call("setCopies", 0, 1);
        bench.call("setMode", 2);
        bench.call("setRule", 2);
        bench.call("load");
        unchanged(ILLEGAL, "undo");
    }

    private static void refusals() {
        say(DESCRIPTION, "A method that returns an error code changes nothing.");
        // With a text, with six states for undo(), with eight pieces, with a hole.
        fresh("1#./..2|oomc3x9|ot|o|o|o|o");
        bench.call("addPiece", 51, 2, 3);
        bench.call("addPiece", 3, 1, 1);
        bench.call("setMode", 1);
        bench.call("setRule", 1);
        bench.call("setCopies", 7, 9);
        bench.append("../.");
        due(6, "count", 9);
        unchanged(INVALID, "setBoard", 0, 3);
        unchanged(INVALID, "setHole", 6, 1);
        unchanged(ILLEGAL, "setHole", 1, 1);
        unchanged(ILLEGAL, "setHole", 0, 0);
        unchanged(INVALID, "setColour", 0, 4);
        unchanged(ILLEGAL, "setColour", 1, 1);
        unchanged(INVALID, "addPiece", 0, 0, 0);
        unchanged(NO_ROOM, "addPiece", 1, 0, 0);
        unchanged(INVALID, "removePiece", 8);
        unchanged(INVALID, "setCopies", 0, 10);
        unchanged(INVALID, "setMode", 2);
        unchanged(INVALID, "setRule", 2);
        unchanged(INVALID, "count", 10);
        unchanged(INVALID, "colour", 6);
        unchanged(INVALID, "piece", 8, 0);
        unchanged(INVALID, "form", 8, 0);
        unchanged(INVALID, "placement", -1, 0);
        unchanged(INVALID, "appendCharacter", 256);
        unchanged(-14, "load");
        unchanged(INVALID, "coverAt", -1, 0);
        unchanged(INVALID, "used", -1, 0);
        unchanged(INVALID, "alike", -1, 0);
        unchanged(INVALID, "useful", 8);
        unchanged(INVALID, "usefulAt", 6);
        unchanged(INVALID, "proves", 0, 0, 6);
    }

    private static void severalCodes() {
        say(DESCRIPTION, "If several error codes apply, the one that is named first in the"
                + " description of the method is returned; NONE is no error, and it is returned only"
                + " if no error code applies.");
        fresh("#.|o|o|o|o|o|o|o|o");
        unchanged(INVALID, "setHole", 0, 2);
        unchanged(INVALID, "setColour", 0, 4);
        unchanged(INVALID, "addPiece", 5, 0, 0);
        unchanged(INVALID, "addPiece", 1, 3, 0);
        unchanged(INVALID, "form", 8, 9);
        unchanged(NONE, "form", 7, 9);
        unchanged(INVALID, "placement", 99, 5);
        unchanged(NONE, "placement", 99, 4);
        unchanged(INVALID, "coverAt", 99, 2);
        unchanged(INVALID, "coverAt", -1, 0);
        unchanged(NONE, "coverAt", 99, 0);
        unchanged(INVALID, "used", 99, 8);
        unchanged(NONE, "used", 99, 7);
        unchanged(INVALID, "alike", 99, -1);
        unchanged(NONE, "alike", 99, 99);
        fresh("....../######|ox9|ox9|ox9|ox9|ox9|ox9|ox9|ox9");
        unchanged(UNFINISHED, "classes");
        unchanged(UNFINISHED, "coverAt", 99999, 6);
        unchanged(NONE, "coverAt", 0, 6);
        unchanged(INVALID, "coverAt", 99999, 12);
        unchanged(INVALID, "used", 99999, 8);
        unchanged(UNFINISHED, "used", 99999, 7);
        unchanged(INVALID, "alike", 99999, -1);
        unchanged(UNFINISHED, "alike", 99999, 99999);
        fresh();
        bench.append(".".repeat(160));
        unchanged(INVALID, "appendCharacter", 256);
        unchanged(NO_ROOM, "appendCharacter", 255);
    }

    private static void constants() {
        say(DESCRIPTION, "`INVALID_ARGUMENT = -1`: An argument is out of range, or names something"
                + " that does not exist.");
        expect(-1, PolyominoCover.INVALID_ARGUMENT, "INVALID_ARGUMENT");
        due(PolyominoCover.INVALID_ARGUMENT, "setMode", 2);
        due(PolyominoCover.INVALID_ARGUMENT, "removePiece", 0);
        say(DESCRIPTION, "`ILLEGAL_STATE = -2`: The call is not possible in the present state.");
        expect(-2, PolyominoCover.ILLEGAL_STATE, "ILLEGAL_STATE");
        due(PolyominoCover.ILLEGAL_STATE, "undo");
        say(DESCRIPTION, "`CAPACITY_EXCEEDED = -3`: There is no room.");
        expect(-3, PolyominoCover.CAPACITY_EXCEEDED, "CAPACITY_EXCEEDED");
        bench.append(".".repeat(160));
        due(PolyominoCover.CAPACITY_EXCEEDED, "appendCharacter", '.');
        say(DESCRIPTION, "`UNFINISHED = -4`: The search is unfinished.");
        expect(-4, PolyominoCover.UNFINISHED, "UNFINISHED");
        fresh("......|ox9|ox9|ox9|ox9|ox9|ox9|ox9|ox9");
        due(PolyominoCover.UNFINISHED, "covers");
        say(DESCRIPTION, "`NONE = -9`: There is no such value.");
        expect(-9, PolyominoCover.NONE, "NONE");
        due(PolyominoCover.NONE, "fewest");
    }

    private static void manyCalls() {
        say(WHAT_IT_IS, "An object is used for at most 512 calls after it has been made;");
        fresh("......|ox9|ox9|ox9|ox9|ox9|ox9|ox9|ox9");
        // The pieces of a cover are the digits of its number, with 8 for a base.
        while (bench.callCount() < Bench.MOST_CALLS - 2) {
            int cover = bench.callCount() * 1231 % 17000;
            int cell = bench.callCount() % 6;
            due(6 * (cover >> 3 * (5 - cell) & 7) + cell, "coverAt", cover, cell);
        }
        due(UNFINISHED, "covers");
        due(5, "setHole", 0, 1);
        expect(Bench.MOST_CALLS, bench.callCount(), "the number of calls");
    }

    public static void main(String[] args) {
        saving();
        notSaving();
        sixStates();
        undoing();
        refusals();
        severalCodes();
        constants();
        manyCalls();
        finish();
    }
}
