import java.util.Arrays;
import java.util.Map;
import java.util.Random;
import java.util.TreeMap;

/** Random runs of calls, with fixed seeds, on the program and on NaiveCover side by side. */
public final class RandomRunsTest {
    private static final int RUNS = 700;
    private static final int CALLS = 220;
    private static final String[] SETTERS = {"setBoard", "setHole", "setColour", "addPiece",
        "removePiece", "setCopies", "setMode", "setRule", "undo", "problem"};
    /** Those that seldom leave a problem without any covers. */
    private static final String[] GENTLE_SETTERS = {"setMode", "setRule", "undo", "undo",
        "problem", "problem", "setCopies"};
    private static final String[] ASKERS = {"count", "colour", "piece", "form", "placement",
        "covers", "tries", "coverAt", "used", "classes", "alike", "fewest", "useful", "usefulAt",
        "proves", "proof"};
    private static final int[] SHAPES = {1, 3, 7, 15, 19, 51, 23, 54, 99, 39, 275, 114, 113, 55,
        17, 273, 4369, 35, 71, 547};

    private final Random random;
    private final PolyominoCover tested = new PolyominoCover();
    private final NaiveCover due = new NaiveCover();
    private final StringBuilder story = new StringBuilder();
    private final Map<String, Integer> seen;
    private boolean failed = false;
    private int calls = 0;

    private RandomRunsTest(long seed, Map<String, Integer> seen) {
        this.random = new Random(seed);
        this.seen = seen;
    }

    private int upTo(int most) {
        return random.nextInt(most + 1);
    }

    /** Mostly from 0 to most, now and then just outside, rarely far outside. */
    private int about(int most) {
        switch (random.nextInt(24)) {
            case 0:
                return -1;
            case 1:
                return most + 1;
            case 2:
                return new int[] {Integer.MIN_VALUE, Integer.MAX_VALUE, -7, 1000}[upTo(3)];
            default:
                return most < 0 ? 0 : upTo(most);
        }
    }

    private boolean isUsedUp() {
        return failed || calls >= Bench.MOST_CALLS;
    }

    private void compare(String name, int got, int want, int... arguments) {
        calls++;
        String call = name + Arrays.toString(arguments) + " = " + got;
        story.append(call).append('\n');
        seen.merge(name + (want < 0 && want > -10 ? " " + want : want < 0 ? " error" : ""), 1,
                Integer::sum);
        if (got != want) {
            failed = true;
            System.out.println(story + "the last one is wrong, due is " + want);
        }
    }

    private int lastCell() {
        return due.count(0) * due.count(1) - 1;
    }

    private int lastPiece() {
        return due.count(3) - 1;
    }

    private int someShape() {
        if (upTo(5) == 0) {
            return upTo(1) == 0 ? upTo(65535) & upTo(65535) : about(65535);
        }
        return SHAPES[upTo(SHAPES.length - 1)] << new int[] {0, 0, 0, 1, 4, 5}[upTo(5)];
    }

    private int someCover() {
        int covers = due.covers();
        int most = covers == -4 ? 20000 : covers - 1;
        return upTo(2) == 0 ? about(most) : about(Math.min(most, 120));
    }

    private void call(String name) {
        int a;
        int b;
        int c;
        switch (name) {
            case "setBoard":
                a = about(6);
                b = about(6);
                compare(name, tested.setBoard(a, b), due.setBoard(a, b), a, b);
                break;
            case "setHole":
                a = about(lastCell());
                b = about(1);
                compare(name, tested.setHole(a, b), due.setHole(a, b), a, b);
                break;
            case "setColour":
                a = about(lastCell());
                b = about(3);
                compare(name, tested.setColour(a, b), due.setColour(a, b), a, b);
                break;
            case "addPiece":
                a = someShape();
                b = about(2);
                c = about(3);
                compare(name, tested.addPiece(a, b, c), due.addPiece(a, b, c), a, b, c);
                break;
            case "removePiece":
                a = about(lastPiece());
                compare(name, tested.removePiece(a), due.removePiece(a), a);
                break;
            case "setCopies":
                a = about(lastPiece());
                b = about(9);
                compare(name, tested.setCopies(a, b), due.setCopies(a, b), a, b);
                break;
            case "setMode":
                a = about(1);
                compare(name, tested.setMode(a), due.setMode(a), a);
                break;
            case "setRule":
                a = about(1);
                compare(name, tested.setRule(a), due.setRule(a), a);
                break;
            case "undo":
                compare(name, tested.undo(), due.undo());
                break;
            case "problem":
                loadText();
                break;
            default:
                ask(name);
        }
    }

    private void ask(String name) {
        int a;
        int b;
        int c;
        switch (name) {
            case "count":
                a = about(9);
                compare(name, tested.count(a), due.count(a), a);
                break;
            case "colour":
                a = about(lastCell());
                compare(name, tested.colour(a), due.colour(a), a);
                break;
            case "piece":
                a = about(lastPiece());
                b = about(6);
                compare(name, tested.piece(a, b), due.piece(a, b), a, b);
                break;
            case "form":
                a = about(lastPiece());
                b = about(7);
                compare(name, tested.form(a, b), due.form(a, b), a, b);
                break;
            case "placement":
                a = about(due.count(7) - 1);
                b = about(4);
                compare(name, tested.placement(a, b), due.placement(a, b), a, b);
                break;
            case "covers":
                compare(name, tested.covers(), due.covers());
                break;
            case "tries":
                compare(name, tested.tries(), due.tries());
                break;
            case "coverAt":
                a = someCover();
                b = about(lastCell());
                compare(name, tested.coverAt(a, b), due.coverAt(a, b), a, b);
                break;
            case "used":
                a = someCover();
                b = about(lastPiece());
                compare(name, tested.used(a, b), due.used(a, b), a, b);
                break;
            case "classes":
                compare(name, tested.classes(), due.classes());
                break;
            case "alike":
                a = someCover();
                b = someCover();
                compare(name, tested.alike(a, b), due.alike(a, b), a, b);
                break;
            case "fewest":
                compare(name, tested.fewest(), due.fewest());
                break;
            case "useful":
                a = about(lastPiece());
                compare(name, tested.useful(a), due.useful(a), a);
                break;
            case "usefulAt":
                a = about(lastCell());
                compare(name, tested.usefulAt(a), due.usefulAt(a), a);
                break;
            case "proves":
                c = upTo(9) == 0 ? about(6) : 2 + upTo(3);
                a = about(Math.min(Math.max(c, 1), 6) - 1);
                b = about(Math.min(Math.max(c, 1), 6) - 1);
                compare(name, tested.proves(a, b, c), due.proves(a, b, c), a, b, c);
                break;
            default:
                compare(name, tested.proof(), due.proof());
        }
    }

    private String someRows(String signs, int mostSide) {
        int width = 1 + upTo(mostSide - 1);
        int height = 1 + upTo(mostSide - 1);
        StringBuilder rows = new StringBuilder();
        for (int row = 0; row < height; row++) {
            rows.append(row == 0 ? "" : "/");
            for (int column = 0; column < width; column++) {
                rows.append(signs.charAt(upTo(signs.length() - 1)));
            }
        }
        return rows.toString();
    }

    private String somePiece() {
        String[] good = {"o", "oo", "ooo", "oo/o.", ".o/oo", "oo/oo", "o/o/o", "oo./.oo", "oooo",
            "o../ooo", ".o./ooo", "o.o/ooo", "o/o/o/o", "..../.oo."};
        String rows = upTo(7) == 0 ? someRows("oo.", 4) : good[upTo(good.length - 1)];
        StringBuilder piece = new StringBuilder("|").append(rows);
        String[] options = {"t", "m", "c" + upTo(4), "x" + upTo(9)};
        for (int number = upTo(3); number > 0; number--) {
            piece.append(options[upTo(3)]);
        }
        return piece.toString();
    }

    private String someText() {
        StringBuilder whole = new StringBuilder(
                someRows(upTo(1) == 0 ? "........" : "......#123", upTo(2) == 0 ? 6 : 4));
        int pieces = upTo(6) == 0 ? 7 + upTo(2) : upTo(4);
        for (int piece = 0; piece < pieces; piece++) {
            whole.append(somePiece());
        }
        for (int spoils = upTo(3) == 0 ? 1 + upTo(1) : 0; spoils > 0; spoils--) {
            char sign = "./#123456789|otmcx0 O\u00e9".charAt(upTo(21));
            int place = upTo(whole.length());
            if (upTo(1) == 0 && place < whole.length()) {
                whole.deleteCharAt(place);
            } else {
                whole.insert(place, sign);
            }
        }
        return whole.toString();
    }

    /** A problem that mostly has covers, for there the most can go wrong. */
    private String coverableText() {
        String[] fill = {"|ox9", "|oc1x9", "|oox9|o/ox9", "|ootx9", "|ootc1x9|oc1x9", "|oo/o.tx9",
            "|oo/o.mx9|ox4", "|oootx9|ox3c2", "|oox9|oc2x3", "|ootx5|oo/ootx2", "|oooo/o...mx9",
            "|ootx9c1|ootc2x9", "|oo/o.x4|.o/oox4|o/ox4t", "|o../oootx8|oooomx8|ox2"};
        String[] rows = {"....", ".....", "......", "...", "..", ".#..", "..1.", "#..#", "1....",
            "..#..", "......"};
        String row = rows[upTo(rows.length - 1)];
        StringBuilder whole = new StringBuilder(row);
        for (int more = 1 + upTo(upTo(4)); more > 0; more--) {
            whole.append('/').append(upTo(3) == 0 ? row : row.replaceAll(".", "."));
        }
        for (int pieces = upTo(1); pieces >= 0; pieces--) {
            whole.append(fill[upTo(fill.length - 1)]);
        }
        return whole.toString();
    }

    private void loadText() {
        if (upTo(3) > 0) {
            compare("clearText", tested.clearText(), due.clearText());
        }
        for (char sign : (upTo(1) == 0 ? someText() : coverableText()).toCharArray()) {
            if (isUsedUp()) {
                return;
            }
            compare("appendCharacter", tested.appendCharacter(sign), due.appendCharacter(sign),
                    sign);
        }
        int odd = about(255);
        if (upTo(15) == 0 && !isUsedUp()) {
            compare("appendCharacter", tested.appendCharacter(odd), due.appendCharacter(odd), odd);
        }
        if (!isUsedUp()) {
            compare("load", tested.load(), due.load());
        }
    }

    private boolean run(boolean gentle) {
        String[] setters = gentle ? GENTLE_SETTERS : SETTERS;
        if (gentle) {
            loadText();
        }
        for (int call = 0; call < CALLS && !isUsedUp(); call++) {
            boolean change = upTo(gentle ? 9 : 3) == 0;
            call(change ? setters[upTo(setters.length - 1)] : ASKERS[upTo(ASKERS.length - 1)]);
        }
        return !failed;
    }

    public static void main(String[] args) {
        int runs = args.length > 0 ? Integer.parseInt(args[0]) : RUNS;
        Map<String, Integer> seen = new TreeMap<>();
        int wrong = 0;
        for (int seed = 0; seed < runs && wrong < 3; seed++) {
            if (!new RandomRunsTest(seed, seen).run(seed % 3 != 0)) {
                System.out.println("run " + seed + " failed");
                wrong++;
            }
        }
        System.out.println("calls compared, by the kind of the answer due: " + seen);
        if (wrong != 0) {
            System.exit(1);
        }
        System.out.println("all answers are as due");
    }
}
