/** For each promise of the document: ordinary inputs, the edges it names, and wrong inputs. */
public final class PromisesTest {
    private static final int MIN = Integer.MIN_VALUE;
    private static final int MAX = Integer.MAX_VALUE;
    /** 8 * 1 * 2 * 8 * 5 * 5 * 5 ways for the cells, one after the other: just 20000 tries. */
    private static final String JUST_FINISHED = ".12.33/3#####"
            + "|oc1x9|oc2x9|oc2x9|oc3x9|oc3x9|oc3x9|oc3x9|oc3x9";
    /** 3 * 6 * 2 * 2 * 6 * 3 * 2 * 6 ways: one try too many, the one of the last cover. */
    private static final String JUST_UNFINISHED = "3.22.3/2.####"
            + "|oc1x9|oc2x9|oc2x9|oc3x9|oc3x9|oc3x9";

    private static int wrong = 0;
    private static int promise = 0;
    private static PolyominoCover x;

    private static void due(String call, int got, int want) {
        if (got != want) {
            wrong++;
            System.out.println("promise " + promise + ": " + call + " answered " + got
                    + ", due is " + want);
        }
    }

    private static void begin(int number) {
        promise = number;
        x = new PolyominoCover();
    }

    private static int append(String text) {
        int length = 0;
        for (char character : text.toCharArray()) {
            length = x.appendCharacter(character);
        }
        return length;
    }

    private static void load(String text) {
        x.clearText();
        append(text);
        int answer = x.load();
        if (answer < 0) {
            due("load() of " + text, answer, 0);
        }
    }

    /** Loads a text into a new object. */
    private static void fresh(String text) {
        x = new PolyominoCover();
        load(text);
    }

    private static void promise1() {
        begin(1);
        int[] counts = {4, 4, 16, 0, 0, 0, 0, 0, 8, 0};
        for (int what = 0; what < counts.length; what++) {
            due("count(" + what + ")", x.count(what), counts[what]);
        }
        for (int cell = 0; cell < 16; cell++) {
            due("colour(" + cell + ")", x.colour(cell), 0);
        }
        due("colour(16)", x.colour(16), -1);
        due("clearText()", x.clearText(), 0);
        due("load()", x.load(), -10);
        due("undo()", x.undo(), -2);
        due("covers()", x.covers(), 0);
        due("tries()", x.tries(), 0);
        due("fewest()", x.fewest(), -9);
        due("classes()", x.classes(), 0);
        due("proof()", x.proof(), 501);
        due("usefulAt(0)", x.usefulAt(0), 0);
    }

    private static void promise2() {
        begin(2);
        for (int width = -1; width <= 8; width++) {
            for (int height = -1; height <= 8; height++) {
                boolean good = width >= 1 && width <= 6 && height >= 1 && height <= 6;
                int savedBefore = x.count(9);
                due("setBoard(" + width + ", " + height + ")", x.setBoard(width, height),
                        good ? width * height : -1);
                due("count(9)", x.count(9), good ? Math.min(savedBefore + 1, 6) : savedBefore);
                if (good) {
                    due("count(0)", x.count(0), width);
                    due("count(1)", x.count(1), height);
                    due("count(2)", x.count(2), width * height);
                }
            }
        }
        due("setBoard(MAX, MAX)", x.setBoard(MAX, MAX), -1);
        due("setBoard(MIN, 2)", x.setBoard(MIN, 2), -1);
        due("setBoard(65536, 65536)", x.setBoard(65536, 65536), -1);
        due("count(0)", x.count(0), 6);
        x.addPiece(3, 1, 2);
        x.setHole(0, 1);
        x.setColour(1, 3);
        x.setMode(1);
        x.setRule(1);
        due("setBoard(6, 6)", x.setBoard(6, 6), 36);
        due("colour(0)", x.colour(0), 0);
        due("colour(1)", x.colour(1), 0);
        due("piece(0, 0)", x.piece(0, 0), 3);
        due("count(7)", x.count(7), 60);
        due("count(4)", x.count(4), 1);
        due("count(5)", x.count(5), 1);
    }

    private static void promise3() {
        begin(3);
        x.setColour(15, 2);
        due("setHole(15, 1)", x.setHole(15, 1), 15);
        due("colour(15)", x.colour(15), -9);
        due("setHole(15, 1)", x.setHole(15, 1), -2);
        due("count(9)", x.count(9), 2);
        due("setHole(0, 1)", x.setHole(0, 1), 14);
        due("setHole(15, 0)", x.setHole(15, 0), 15);
        due("colour(15)", x.colour(15), 0);
        due("setHole(15, 0)", x.setHole(15, 0), -2);
        due("setHole(-1, 1)", x.setHole(-1, 1), -1);
        due("setHole(16, 1)", x.setHole(16, 1), -1);
        due("setHole(1, 2)", x.setHole(1, 2), -1);
        due("setHole(1, -1)", x.setHole(1, -1), -1);
        due("setHole(0, 2)", x.setHole(0, 2), -1);
        due("setHole(MAX, 0)", x.setHole(MAX, 0), -1);
        due("setHole(MIN, 0)", x.setHole(MIN, 0), -1);
        due("count(2)", x.count(2), 15);
        due("count(9)", x.count(9), 4);
        x.setBoard(1, 1);
        due("setHole(1, 1)", x.setHole(1, 1), -1);
        due("setHole(0, 1)", x.setHole(0, 1), 0);
    }

    private static void promise4() {
        begin(4);
        due("setColour(5, 3)", x.setColour(5, 3), 0);
        due("setColour(5, 1)", x.setColour(5, 1), 3);
        due("setColour(5, 1)", x.setColour(5, 1), 1);
        due("count(9)", x.count(9), 3);
        due("setColour(5, 0)", x.setColour(5, 0), 1);
        due("setColour(15, 2)", x.setColour(15, 2), 0);
        due("setColour(5, 4)", x.setColour(5, 4), -1);
        due("setColour(5, -1)", x.setColour(5, -1), -1);
        due("setColour(16, 0)", x.setColour(16, 0), -1);
        due("setColour(-1, 0)", x.setColour(-1, 0), -1);
        x.setHole(5, 1);
        due("setColour(5, 0)", x.setColour(5, 0), -2);
        due("setColour(5, 4)", x.setColour(5, 4), -1);
        due("count(9)", x.count(9), 6);
        due("colour(5)", x.colour(5), -9);
        due("colour(15)", x.colour(15), 2);
    }

    private static void promise5() {
        begin(5);
        int[] noShapes = {0, -1, MIN, MAX, 65536, 65537, 131071, 5, 33, 18, 24, 63, 65535, 51 << 4 | 3,
            0x8001, 0x0180};
        for (int shape : noShapes) {
            due("addPiece(" + shape + ", 0, 0)", x.addPiece(shape, 0, 0), -1);
        }
        due("addPiece(1, -1, 0)", x.addPiece(1, -1, 0), -1);
        due("addPiece(1, 3, 0)", x.addPiece(1, 3, 0), -1);
        due("addPiece(1, 0, -1)", x.addPiece(1, 0, -1), -1);
        due("addPiece(1, 0, 4)", x.addPiece(1, 0, 4), -1);
        due("count(9)", x.count(9), 0);
        int[] shapes = {1, 0x8000, 0xF000, 31, 0x8888, 0x4E40, 0x0C88, 0x3300};
        int[] normal = {1, 1, 15, 31, 0x1111, 0x272, 0x322, 0x33};
        for (int piece = 0; piece < shapes.length; piece++) {
            due("addPiece(" + shapes[piece] + ", 2, 3)", x.addPiece(shapes[piece], 2, 3), piece);
            due("piece(" + piece + ", 0)", x.piece(piece, 0), normal[piece]);
            due("piece(" + piece + ", 3)", x.piece(piece, 3), 1);
        }
        due("addPiece(1, 0, 0)", x.addPiece(1, 0, 0), -3);
        due("addPiece(0, 0, 0)", x.addPiece(0, 0, 0), -1);
        due("addPiece(1, 3, 0)", x.addPiece(1, 3, 0), -1);
        due("addPiece(1, 0, 4)", x.addPiece(1, 0, 4), -1);
        due("count(3)", x.count(3), 8);
        due("count(9)", x.count(9), 6);
    }

    private static void promise6() {
        begin(6);
        due("removePiece(0)", x.removePiece(0), -1);
        x.addPiece(1, 0, 1);
        x.addPiece(3, 1, 2);
        x.addPiece(7, 2, 3);
        x.setCopies(2, 5);
        due("removePiece(3)", x.removePiece(3), -1);
        due("removePiece(-1)", x.removePiece(-1), -1);
        due("removePiece(MAX)", x.removePiece(MAX), -1);
        due("count(9)", x.count(9), 4);
        due("removePiece(1)", x.removePiece(1), 2);
        int[] properties = {7, 2, 3, 5, 3, 2, 16};
        for (int what = 0; what < properties.length; what++) {
            due("piece(1, " + what + ")", x.piece(1, what), properties[what]);
        }
        due("piece(0, 2)", x.piece(0, 2), 1);
        due("piece(2, 0)", x.piece(2, 0), -1);
        due("removePiece(1)", x.removePiece(1), 1);
        due("removePiece(0)", x.removePiece(0), 0);
        due("removePiece(0)", x.removePiece(0), -1);
        due("addPiece(3, 0, 0)", x.addPiece(3, 0, 0), 0);
        due("piece(0, 3)", x.piece(0, 3), 1);
        // Of the last piece nothing is left.
        load("..|oo|ootx9");
        x.setMode(1);
        x.removePiece(1);
        due("count(6)", x.count(6), 2);
        due("count(7)", x.count(7), 1);
        due("covers()", x.covers(), 1);
        due("proves(1, 0, 2)", x.proves(1, 0, 2), 0);
        x.removePiece(0);
        due("proves(0, 0, 2)", x.proves(0, 0, 2), 0);
        due("proves(1, 0, 2)", x.proves(1, 0, 2), 1);
    }

    private static void promise7() {
        begin(7);
        due("setCopies(0, 1)", x.setCopies(0, 1), -1);
        x.addPiece(3, 0, 0);
        x.addPiece(1, 0, 0);
        due("setCopies(0, 9)", x.setCopies(0, 9), 1);
        due("setCopies(0, 2)", x.setCopies(0, 2), 9);
        due("setCopies(0, 0)", x.setCopies(0, 0), -1);
        due("setCopies(0, 10)", x.setCopies(0, 10), -1);
        due("setCopies(2, 1)", x.setCopies(2, 1), -1);
        due("setCopies(-1, 1)", x.setCopies(-1, 1), -1);
        due("piece(0, 3)", x.piece(0, 3), 2);
        due("piece(1, 3)", x.piece(1, 3), 1);
        due("count(9)", x.count(9), 4);
        due("setCopies(0, 2)", x.setCopies(0, 2), 2);
        due("count(9)", x.count(9), 5);
        due("setCopies(0, 1)", x.setCopies(0, 1), 2);
        due("count(6)", x.count(6), 3);
    }

    private static void promise8() {
        begin(8);
        due("setMode(1)", x.setMode(1), 0);
        due("setMode(1)", x.setMode(1), 1);
        due("setMode(2)", x.setMode(2), -1);
        due("setMode(-1)", x.setMode(-1), -1);
        due("count(4)", x.count(4), 1);
        due("count(9)", x.count(9), 2);
        due("setMode(0)", x.setMode(0), 1);
        due("count(4)", x.count(4), 0);
        fresh("..|oox1|ox1");
        due("covers()", x.covers(), 1);
        x.setMode(1);
        due("covers()", x.covers(), 0);
    }

    private static void promise9() {
        begin(9);
        due("setRule(1)", x.setRule(1), 0);
        due("setRule(1)", x.setRule(1), 1);
        due("setRule(2)", x.setRule(2), -1);
        due("setRule(-1)", x.setRule(-1), -1);
        due("count(5)", x.count(5), 1);
        due("count(4)", x.count(4), 0);
        due("count(9)", x.count(9), 2);
        due("setRule(0)", x.setRule(0), 1);
        // Side by side in a row, one above the other, and at the ends of two rows.
        String[] texts = {"..|oc1x2", "./.|oc1x2", ".#/#.|oc1x2", "##./.##|oc3x2", "..|oc1|oc1",
            "..|oc1|oc2", "..|ox2", "..|oc1|o",
            // The one that is there already touches from below, from the right, and not at all.
            ".../...|o../oooc1|oc2|oc1", "../..|o/oc1|oc1|oc2", ".../.##|o/oc1|oc1|oc2"};
        int[] free = {1, 1, 1, 1, 2, 2, 1, 2, 2, 4, 2};
        int[] ruled = {0, 0, 1, 1, 0, 2, 1, 2, 0, 0, 1};
        for (int i = 0; i < texts.length; i++) {
            fresh(texts[i]);
            due("covers() of " + texts[i], x.covers(), free[i]);
            x.setRule(1);
            due("covers() with the rule of " + texts[i], x.covers(), ruled[i]);
        }
        // One search leaves nothing behind for the next one.
        fresh(texts[0]);
        x.setRule(1);
        for (int i = texts.length - 1; i >= 0; i--) {
            load(texts[i]);
            due("covers() then of " + texts[i], x.covers(), ruled[i]);
        }
    }

    private static void promise10() {
        begin(10);
        due("count(-1)", x.count(-1), -1);
        due("count(10)", x.count(10), -1);
        due("count(MIN)", x.count(MIN), -1);
        due("count(MAX)", x.count(MAX), -1);
        fresh("..#/1..|oo/o.tx9|ooc1x2");
        x.setMode(1);
        x.setRule(1);
        int[] counts = {3, 2, 5, 2, 1, 1, 31, 5, 1, 3};
        for (int what = 0; what < counts.length; what++) {
            due("count(" + what + ")", x.count(what), counts[what]);
        }
        String[] boards = {".", "..", "./.", "../..", ".../...", ".#", "#/#", "1./..", "11/..",
            "1./.1", "1./.2", "#./.#", "1.1", "1.2", "#../.../..#", "#.#/.../#.#", ".#./.../...",
            "......", "1./#.", ".1./1../...", ".1../...1/1.../..1."};
        int[] symmetries = {8, 4, 4, 8, 4, 2, 4, 2, 2, 4, 2, 4, 4, 2, 4, 8, 2, 4, 1, 2, 4};
        for (int i = 0; i < boards.length; i++) {
            fresh(boards[i]);
            due("count(8) of " + boards[i], x.count(8), symmetries[i]);
        }
    }

    private static void promise11() {
        begin(11);
        load("#1./23.");
        int[] colours = {-9, 1, 0, 2, 3, 0};
        for (int cell = 0; cell < colours.length; cell++) {
            due("colour(" + cell + ")", x.colour(cell), colours[cell]);
        }
        due("colour(-1)", x.colour(-1), -1);
        due("colour(6)", x.colour(6), -1);
        due("colour(MIN)", x.colour(MIN), -1);
        due("colour(MAX)", x.colour(MAX), -1);
    }

    private static void promise12() {
        begin(12);
        load(".../...|o../oootc2x7|oom");
        int[] first = {113, 1, 2, 7, 4, 4, 2};
        int[] second = {3, 2, 0, 1, 2, 2, 7};
        for (int what = 0; what < first.length; what++) {
            due("piece(0, " + what + ")", x.piece(0, what), first[what]);
            due("piece(1, " + what + ")", x.piece(1, what), second[what]);
        }
        due("piece(0, 7)", x.piece(0, 7), -1);
        due("piece(0, -1)", x.piece(0, -1), -1);
        due("piece(2, 0)", x.piece(2, 0), -1);
        due("piece(-1, 0)", x.piece(-1, 0), -1);
        due("piece(MIN, MAX)", x.piece(MIN, MAX), -1);
    }

    private static void formsAreDue(int shape, int freedom, int... forms) {
        x = new PolyominoCover();
        x.addPiece(shape, freedom, 0);
        String what = " with the shape " + shape + " and the freedom " + freedom;
        due("piece(0, 5)" + what, x.piece(0, 5), forms.length);
        for (int form = 0; form < forms.length; form++) {
            due("form(0, " + form + ")" + what, x.form(0, form), forms[form]);
        }
        due("form(0, " + forms.length + ")" + what, x.form(0, forms.length), -9);
        due("form(0, 8)" + what, x.form(0, 8), -9);
    }

    private static void promise13() {
        begin(13);
        due("form(0, 0)", x.form(0, 0), -1);
        formsAreDue(785, 0, 785);
        formsAreDue(785, 1, 23, 116, 547, 785);
        formsAreDue(785, 2, 23, 71, 113, 116, 275, 547, 785, 802);
        formsAreDue(54 << 5, 0, 54);
        formsAreDue(54, 1, 54, 561);
        formsAreDue(54, 2, 54, 99, 306, 561);
        formsAreDue(0x8888, 1, 15, 0x1111);
        formsAreDue(51, 2, 51);
        formsAreDue(12561, 2, 31, 143, 241, 248, 4371, 8739, 12561, 12834);
        formsAreDue(0x75 << 8, 2, 0x57, 0x75, 0x313, 0x323);
        formsAreDue(0x272, 2, 0x272);
        formsAreDue(114, 1, 39, 114, 305, 562);
        due("form(0, -1)", x.form(0, -1), -1);
        due("form(1, 0)", x.form(1, 0), -1);
        due("form(-1, 0)", x.form(-1, 0), -1);
        due("form(0, MAX)", x.form(0, MAX), -9);
        due("form(1, MAX)", x.form(1, MAX), -1);
        x.addPiece(3, 1, 0);
        due("form(1, 0)", x.form(1, 0), 3);
        due("form(1, 1)", x.form(1, 1), 17);
        due("form(1, 2)", x.form(1, 2), -9);
    }

    private static void partsAreDue(int placement, int... parts) {
        for (int part = 0; part < parts.length; part++) {
            due("placement(" + placement + ", " + part + ")", x.placement(placement, part),
                    parts[part]);
        }
    }

    private static void promise14() {
        begin(14);
        due("placement(0, 0)", x.placement(0, 0), -9);
        load("..#/...|.oo/oo.|oot");
        due("count(7)", x.count(7), 5);
        partsAreDue(0, 1, 0, 0, 0, 1);
        partsAreDue(1, 1, 0, 3, 3, 4);
        partsAreDue(2, 1, 0, 4, 4, 5);
        partsAreDue(3, 1, 1, 0, 0, 3);
        partsAreDue(4, 1, 1, 1, 1, 4);
        due("placement(5, 0)", x.placement(5, 0), -9);
        load("#../..#|.oo/oo.|oot");
        // The corner of the grid lies at a hole, which the form does not contain.
        partsAreDue(0, 0, 0, 0, 1, 4);
        partsAreDue(1, 1, 0, 1, 1, 2);
        due("placement(0, -1)", x.placement(0, -1), -1);
        due("placement(0, 5)", x.placement(0, 5), -1);
        due("placement(-1, 0)", x.placement(-1, 0), -1);
        due("placement(MAX, 4)", x.placement(MAX, 4), -9);
        due("placement(MAX, 5)", x.placement(MAX, 5), -1);
        due("placement(MIN, 0)", x.placement(MIN, 0), -1);
        // Cells with a colour take pieces of that colour alone.
        load(".2/33|oo|ooc2|ooc3|oc1|oc2");
        int[] numbers = {0, 1, 1, 1, 2};
        for (int piece = 0; piece < numbers.length; piece++) {
            due("piece(" + piece + ", 6)", x.piece(piece, 6), numbers[piece]);
        }
        load(".|o");
        partsAreDue(0, 0, 0, 0, 0, 0);
        // No other problem has more placements.
        x.setBoard(6, 6);
        while (x.removePiece(0) > 0) { }
        for (int piece = 0; piece < 8; piece++) {
            x.addPiece(23, 2, 0);
        }
        due("count(7)", x.count(7), 1280);
        partsAreDue(1279, 7, 7, 22, 23, 35);
        due("placement(1280, 0)", x.placement(1280, 0), -9);
    }

    private static void promise15() {
        begin(15);
        due("appendCharacter(-1)", x.appendCharacter(-1), -1);
        due("appendCharacter(256)", x.appendCharacter(256), -1);
        due("appendCharacter(MIN)", x.appendCharacter(MIN), -1);
        due("appendCharacter(0)", x.appendCharacter(0), 1);
        due("appendCharacter(255)", x.appendCharacter(255), 2);
        for (int length = 3; length <= 160; length++) {
            due("appendCharacter(46)", x.appendCharacter(46), length);
        }
        due("appendCharacter(46)", x.appendCharacter(46), -3);
        due("appendCharacter(256)", x.appendCharacter(256), -1);
        due("count(9)", x.count(9), 0);
        due("clearText()", x.clearText(), 160);
    }

    private static void promise16() {
        begin(16);
        due("clearText()", x.clearText(), 0);
        append("..|oo");
        due("clearText()", x.clearText(), 5);
        due("clearText()", x.clearText(), 0);
        due("load()", x.load(), -10);
        due("count(9)", x.count(9), 0);
    }

    /** The error position, or -1 minus the number of pieces. */
    private static void readingIsDue(String text, int answer) {
        x = new PolyominoCover();
        x.addPiece(3, 1, 0);
        append(text);
        boolean error = answer >= 0;
        due("load() of " + text, x.load(), error ? -10 - answer : -1 - answer);
        due("count(9) after " + text, x.count(9), error ? 1 : 2);
        due("count(3) after " + text, x.count(3), error ? 1 : -1 - answer);
        due("clearText() after " + text, x.clearText(), error ? text.length() : 0);
    }

    private static void boardTexts() {
        readingIsDue("", 0);
        readingIsDue(".", -1);
        readingIsDue("......", -1);
        readingIsDue(".......", 6);
        readingIsDue("./././././.", -1);
        readingIsDue("./././././", 10);
        readingIsDue("./././././.|o", -2);
        readingIsDue("./././././.x", 11);
        readingIsDue("./././././..", 11);
        readingIsDue("./././././././.", 11);
        readingIsDue("././././././/", 11);
        readingIsDue("/", 0);
        readingIsDue("|o", 0);
        readingIsDue("#", -1);
        readingIsDue("#/#|o", -2);
        readingIsDue("0", 0);
        readingIsDue("4", 0);
        readingIsDue(".0", 1);
        readingIsDue(" .", 0);
        readingIsDue(". ", 1);
        readingIsDue("123", -1);
        readingIsDue("o", 0);
        readingIsDue("../", 3);
        readingIsDue("..//", 3);
        readingIsDue("../.", 4);
        readingIsDue("../...", 5);
        readingIsDue(".././..", 4);
        readingIsDue("../.|o", 4);
        readingIsDue("../|o", 3);
        readingIsDue("..\n", 2);
        readingIsDue("..|", 3);
        readingIsDue("..||o", 3);
        readingIsDue("..|o|", 5);
        readingIsDue("..|#", 3);
        readingIsDue("..|t", 3);
        readingIsDue("..|/", 3);
    }

    private static void pieceTexts() {
        readingIsDue(".|oooo", -2);
        readingIsDue(".|ooooo", 6);
        readingIsDue(".|oooo.", 6);
        readingIsDue(".|oo/o", 6);
        readingIsDue(".|oo/ot", 6);
        readingIsDue(".|oo/o|o", 6);
        readingIsDue(".|oo/o/", 6);
        readingIsDue(".|oo/ooo", 7);
        readingIsDue(".|oo/", 5);
        readingIsDue(".|oo/t", 5);
        readingIsDue(".|o/o/o/o", -2);
        readingIsDue(".|o/o/o/o/o", 9);
        readingIsDue(".|o/o/o/o/", 9);
        readingIsDue(".|./././.", 9);
        readingIsDue(".|./o/./.", -2);
        readingIsDue(".|.", 3);
        readingIsDue(".|.t", 3);
        readingIsDue(".|..|o", 4);
        readingIsDue(".|oooo/oo..", 11);
        readingIsDue(".|oooo/oo..x9", 11);
        readingIsDue(".|oooo/oooo/oooo/oooo", 21);
        readingIsDue(".|oooo/oooo/oooo/oooo/", 21);
        readingIsDue(".|oooo/oooo/oo|o", 14);
        readingIsDue(".|oooo/o...", -2);
        readingIsDue(".|o.o", 5);
        readingIsDue(".|o./.o|o", 7);
        readingIsDue(".|...o/o...", 11);
        readingIsDue(".|o#", 3);
        readingIsDue(".|O", 2);
        readingIsDue(".|o o", 3);
    }

    private static void optionTexts() {
        readingIsDue(".|otc3x9", -2);
        readingIsDue(".|ox9c3t", -2);
        readingIsDue(".|oc1mx1", -2);
        readingIsDue(".|ott", 4);
        readingIsDue(".|omm", 4);
        readingIsDue(".|otm", 4);
        readingIsDue(".|omt", 4);
        readingIsDue(".|oc1c1", 5);
        readingIsDue(".|oc1c", 5);
        readingIsDue(".|ox1x2", 5);
        readingIsDue(".|otc1x2t", 8);
        readingIsDue(".|otc1x2m", 8);
        readingIsDue(".|otc1x2x", 8);
        readingIsDue(".|oc0", 4);
        readingIsDue(".|oc4", 4);
        readingIsDue(".|oc", 4);
        readingIsDue(".|oc|", 4);
        readingIsDue(".|ox", 4);
        readingIsDue(".|ox0", 4);
        readingIsDue(".|ox10", 5);
        readingIsDue(".|oxx", 4);
        readingIsDue(".|oto", 4);
        readingIsDue(".|ot.", 4);
        readingIsDue(".|ot/o", 4);
        readingIsDue(".|ot ", 4);
        readingIsDue(".|oT", 3);
        readingIsDue(".|o1", 3);
        readingIsDue(".|o|o|o|o|o|o|o|o", -9);
        readingIsDue(".|o|o|o|o|o|o|o|o|", 17);
        readingIsDue(".|o|o|o|o|o|o|o|o|o", 17);
        readingIsDue(".|o|o|o|o|o|o|o|otc1x1|o", 22);
    }

    private static void promise17() {
        begin(17);
        boardTexts();
        pieceTexts();
        optionTexts();
        x = new PolyominoCover();
        x.setMode(1);
        x.setRule(1);
        x.addPiece(3, 1, 0);
        append("#.1/23.|./omx3c2|..oo/.oo./....c1|ot");
        due("load()", x.load(), 3);
        int[][] pieces = {{1, 2, 2, 3}, {54, 0, 1, 1}, {1, 1, 0, 1}};
        for (int piece = 0; piece < pieces.length; piece++) {
            for (int what = 0; what < 4; what++) {
                due("piece(" + piece + ", " + what + ")", x.piece(piece, what),
                        pieces[piece][what]);
            }
        }
        int[] cells = {-9, 0, 1, 2, 3, 0, -1};
        for (int cell = 0; cell < cells.length; cell++) {
            due("colour(" + cell + ")", x.colour(cell), cells[cell]);
        }
        int[] counts = {3, 2, 5, 3, 1, 1};
        for (int what = 0; what < counts.length; what++) {
            due("count(" + what + ")", x.count(what), counts[what]);
        }
        due("load()", x.load(), -10);
        due("undo()", x.undo(), 3);
        due("count(2)", x.count(2), 16);
        due("count(3)", x.count(3), 1);
    }

    private static void promise18() {
        begin(18);
        String[] texts = {"../..|ootx2", "../..|ootx1", "../..|ootx9", "../..|oox2", "...|oox9",
            "#", "#|o", "##/##|oo", "../..|oo/o.t|o", "../..|oo/o.t|ox4", "...|ox2", "...|ox3",
            "1.|oc1|o", ".1.|oot|oc1", "..../..../....|ootx6"};
        int[] free = {2, 0, 2, 1, 0, 1, 1, 1, 4, 5, 0, 1, 1, 0, 11};
        int[] exact = {2, 0, 0, 1, 0, 1, 0, 0, 4, 0, 0, 1, 1, 0, 11};
        for (int i = 0; i < texts.length; i++) {
            fresh(texts[i]);
            due("covers() of " + texts[i], x.covers(), free[i]);
            x.setMode(1);
            due("covers() with mode 1 of " + texts[i], x.covers(), exact[i]);
        }
        fresh("######/######/######/######/######/####..|ox2|oo");
        due("covers()", x.covers(), 2);
        due("tries()", x.tries(), 3);
        fresh(JUST_FINISHED);
        due("covers()", x.covers(), 16000);
        fresh(JUST_UNFINISHED);
        due("covers()", x.covers(), -4);
        x.setMode(1);
        due("covers()", x.covers(), -4);
        x.undo();
        due("removePiece(0)", x.removePiece(0), 5);
        due("covers()", x.covers(), 3 * 5 * 2 * 2 * 5 * 3 * 2 * 5);
    }

    private static void promise19() {
        begin(19);
        String[] texts = {"../..|ootx2", "../..|ootx1", "../..|oox2", "...|oox9", "#", "#|o",
            "..|oc1x2|o", "..|oc1x2"};
        int[] tries = {4, 2, 2, 1, 0, 0, 5, 2};
        int[] ruled = {4, 2, 2, 1, 0, 0, 4, 1};
        for (int i = 0; i < texts.length; i++) {
            fresh(texts[i]);
            due("tries() of " + texts[i], x.tries(), tries[i]);
            x.setMode(1);
            due("tries() with mode 1 of " + texts[i], x.tries(), tries[i]);
            x.setRule(1);
            due("tries() with the rule of " + texts[i], x.tries(), ruled[i]);
        }
        fresh(JUST_FINISHED);
        due("tries()", x.tries(), 20000);
        fresh(JUST_UNFINISHED);
        due("tries()", x.tries(), -4);
    }

    private static void promise20() {
        begin(20);
        load("../..|ootx2");
        int[][] covers = {{0, 0, 1, 1}, {2, 3, 2, 3}, {-9, -9, -9, -9}};
        for (int cover = 0; cover < covers.length; cover++) {
            for (int cell = 0; cell < 4; cell++) {
                due("coverAt(" + cover + ", " + cell + ")", x.coverAt(cover, cell),
                        covers[cover][cell]);
            }
        }
        due("coverAt(-1, 0)", x.coverAt(-1, 0), -1);
        due("coverAt(0, 4)", x.coverAt(0, 4), -1);
        due("coverAt(0, -1)", x.coverAt(0, -1), -1);
        due("coverAt(5, 4)", x.coverAt(5, 4), -1);
        due("coverAt(MAX, 0)", x.coverAt(MAX, 0), -9);
        fresh("#.|o");
        due("coverAt(0, 0)", x.coverAt(0, 0), -9);
        due("coverAt(0, 1)", x.coverAt(0, 1), 0);
        due("coverAt(1, 1)", x.coverAt(1, 1), -9);
        fresh("#");
        due("coverAt(0, 0)", x.coverAt(0, 0), -9);
        fresh(JUST_UNFINISHED);
        // 15552 covers there would be; the last one is not found any more.
        due("coverAt(15550, 0)", x.coverAt(15550, 0), 25);
        due("coverAt(15551, 0)", x.coverAt(15551, 0), -4);
        due("coverAt(15551, 8)", x.coverAt(15551, 8), -4);
        due("coverAt(15550, 8)", x.coverAt(15550, 8), -9);
        due("coverAt(MAX, 8)", x.coverAt(MAX, 8), -4);
        due("coverAt(-1, 8)", x.coverAt(-1, 8), -1);
        due("coverAt(15551, 12)", x.coverAt(15551, 12), -1);
    }

    /** Two monominoes that fit everywhere: cover c has piece (bit of c) at each cell. */
    private static void coversInAnyOrder() {
        fresh("..../....|ox8|ox8");
        int[] order = {0, 255, 99, 100, 101, 254, 100, 150, 7, 149, 150, 151, 128, 99, 200};
        for (int cover : order) {
            int seconds = 0;
            for (int cell = 0; cell < 8; cell++) {
                int second = cover >> 7 - cell & 1;
                seconds += second;
                due("coverAt(" + cover + ", " + cell + ")", x.coverAt(cover, cell),
                        8 * second + cell);
            }
            due("used(" + cover + ", 0)", x.used(cover, 0), 8 - seconds);
            due("used(" + cover + ", 1)", x.used(cover, 1), seconds);
        }
        // Mirrored rows, mirrored columns, both; neither.
        due("alike(0b00010011, 0b10001100)", x.alike(0b00010011, 0b10001100), 1);
        due("alike(0b10110001, 0b00011011)", x.alike(0b10110001, 0b00011011), 1);
        due("alike(0b10001100, 0b00110001)", x.alike(0b10001100, 0b00110001), 1);
        due("alike(0b10001100, 0b11001000)", x.alike(0b10001100, 0b11001000), 1);
        due("alike(0b11001000, 0b10001010)", x.alike(0b11001000, 0b10001010), 0);
        due("alike(200, 201)", x.alike(200, 201), 0);
        due("alike(201, 201)", x.alike(201, 201), 1);
        due("alike(255, 256)", x.alike(255, 256), -9);
    }

    private static void promise21() {
        begin(21);
        coversInAnyOrder();
        fresh("../..|ootx2|o");
        due("used(0, 0)", x.used(0, 0), 2);
        due("used(0, 1)", x.used(0, 1), 0);
        due("used(0, 2)", x.used(0, 2), -1);
        due("used(0, -1)", x.used(0, -1), -1);
        due("used(-1, 0)", x.used(-1, 0), -1);
        due("used(2, 0)", x.used(2, 0), -9);
        due("used(2, 2)", x.used(2, 2), -1);
        fresh("#|o");
        due("used(0, 0)", x.used(0, 0), 0);
        due("used(1, 0)", x.used(1, 0), -9);
        fresh(JUST_UNFINISHED);
        due("used(15550, 5)", x.used(15550, 5), 4);
        due("used(15551, 5)", x.used(15551, 5), -4);
        due("used(15551, 6)", x.used(15551, 6), -1);
    }

    private static void promise22() {
        begin(22);
        String[] texts = {"../..|ootx2", "../..|oox2", "../..|oox2|o/ox2", "..|oo|oo",
            "1./..|ootc1x2", "11/..|ootc1x2", "...|ootx1|o", "...|oot|oc1", ".#.|ox1|ox1",
            "#", "#|o", "...|oox9", "../..|oo/o.t|o", ".../.../...|ootx4|o", ".../...|ox6|ox6",
            "..../...#|ox7|ox7"};
        int[] classes = {1, 1, 2, 2, 1, 2, 1, 1, 1, 1, 1, 0, 1, 3, 24, -3};
        for (int i = 0; i < texts.length; i++) {
            fresh(texts[i]);
            due("classes() of " + texts[i], x.classes(), classes[i]);
        }
        fresh(JUST_UNFINISHED);
        due("classes()", x.classes(), -4);
        // 81 covers of monominoes, 18 with one domino, 1 with two; then one more.
        fresh("../..|ox4|ox4|ox4|oox2");
        due("covers()", x.covers(), 100);
        due("classes()", x.classes(), 21 + 6 + 1);
        x.addPiece(51, 0, 0);
        due("covers()", x.covers(), 101);
        due("classes()", x.classes(), -3);
        fresh("1.|oc1|oc1|oc1|oc1|oc1|o|o|o");
        due("covers()", x.covers(), 35);
        due("classes()", x.classes(), 35);
    }

    private static void promise23() {
        begin(23);
        due("alike(0, 0)", x.alike(0, 0), -9);
        load("../..|ootx2");
        due("alike(0, 1)", x.alike(0, 1), 1);
        due("alike(1, 0)", x.alike(1, 0), 1);
        due("alike(1, 1)", x.alike(1, 1), 1);
        due("alike(0, 2)", x.alike(0, 2), -9);
        due("alike(2, 0)", x.alike(2, 0), -9);
        due("alike(-1, 0)", x.alike(-1, 0), -1);
        due("alike(0, -1)", x.alike(0, -1), -1);
        due("alike(-1, 2)", x.alike(-1, 2), -1);
        due("alike(MAX, MAX)", x.alike(MAX, MAX), -9);
        load("../..|oox2|o/ox2");
        due("alike(0, 1)", x.alike(0, 1), 0);
        load("11/..|ootc1x2");
        due("alike(0, 1)", x.alike(0, 1), 0);
        load("..|oo|oo");
        due("alike(0, 1)", x.alike(0, 1), 0);
        load("#");
        due("alike(0, 0)", x.alike(0, 0), 1);
        due("alike(0, 1)", x.alike(0, 1), -9);
        load(JUST_UNFINISHED);
        due("alike(0, 15550)", x.alike(0, 15550), 0);
        due("alike(15550, 15550)", x.alike(15550, 15550), 1);
        due("alike(0, 15551)", x.alike(0, 15551), -4);
        due("alike(15551, 0)", x.alike(15551, 0), -4);
        due("alike(15551, -1)", x.alike(15551, -1), -1);
    }

    private static void promise24() {
        begin(24);
        String[] texts = {"../..|ox9|ootx9", "../..|ox9|oot", "../..|ox9|oo/oo|oot", "...|oox9",
            "#", "#|o", "...../.....|ox9|oo/o.tx9", "../..|oo/oo|ox9"};
        int[] fewest = {2, 3, 1, -9, 0, 0, 4, 1};
        for (int i = 0; i < texts.length; i++) {
            fresh(texts[i]);
            due("fewest() of " + texts[i], x.fewest(), fewest[i]);
        }
        fresh("#|o");
        x.setMode(1);
        due("fewest()", x.fewest(), -9);
        fresh(JUST_FINISHED);
        due("fewest()", x.fewest(), 7);
        fresh(JUST_UNFINISHED);
        due("fewest()", x.fewest(), -4);
    }

    private static void promise25() {
        begin(25);
        due("useful(0)", x.useful(0), -1);
        String[] texts = {"...|oo", "....|oo", ".....|oox9", "......|oo",
            "../..|oo/oo", "../..|oot", ".|oo", "#|o", ".../...|oo/o.t", "..|oc1|oc1", "...|oo|o"};
        int[] useful = {0, 2, 0, 3, 1, 4, 0, 0, 4, 2, 2};
        for (int i = 0; i < texts.length; i++) {
            fresh(texts[i]);
            x.setRule(1);
            due("useful(0) of " + texts[i], x.useful(0), useful[i]);
        }
        due("useful(1)", x.useful(1), 3);
        for (int i = 0; i < texts.length; i++) {
            load(texts[i]);
            due("useful(0) then of " + texts[i], x.useful(0), useful[i]);
        }
        due("useful(2)", x.useful(2), -1);
        due("useful(-1)", x.useful(-1), -1);
        due("useful(MAX)", x.useful(MAX), -1);
    }

    private static void promise26() {
        begin(26);
        load("....#|oo");
        int[] useful = {1, 1, 1, 1, -9};
        for (int cell = 0; cell < useful.length; cell++) {
            due("usefulAt(" + cell + ")", x.usefulAt(cell), useful[cell]);
        }
        due("usefulAt(5)", x.usefulAt(5), -1);
        due("usefulAt(-1)", x.usefulAt(-1), -1);
        due("usefulAt(MIN)", x.usefulAt(MIN), -1);
        load(".../...|oo/o.t");
        // The four with two cells in an outer column; each leaves one with the other three cells.
        for (int cell = 0; cell < 6; cell++) {
            due("usefulAt(" + cell + ")", x.usefulAt(cell), 2);
        }
        load(".....|oo");
        due("usefulAt(0)", x.usefulAt(0), 0);
        x.removePiece(0);
        due("usefulAt(0)", x.usefulAt(0), 0);
    }

    private static void promise27() {
        begin(27);
        int[][] bad = {{0, 0, 1}, {0, 0, 6}, {0, 0, 0}, {0, 0, -1}, {0, 0, MIN}, {0, 0, MAX},
            {2, 0, 2}, {0, 2, 2}, {-1, 0, 2}, {0, -1, 2}, {5, 0, 5}, {0, 5, 5}, {3, 3, 3}};
        for (int[] a : bad) {
            due("proves(" + a[0] + ", " + a[1] + ", " + a[2] + ")", x.proves(a[0], a[1], a[2]), -1);
        }
        load("./././.|o/o");
        // Each upright domino weighs 1, the board weighs 0.
        int[] exact = {1, 0, 1, 0};
        for (int copies = 1; copies <= 4; copies++) {
            x.setCopies(0, copies);
            x.setMode(1);
            due("proves(0, 1, 2)", x.proves(0, 1, 2), exact[copies - 1]);
            due("proves(1, 0, 2)", x.proves(1, 0, 2), 0);
            x.setMode(0);
            due("proves(0, 1, 2)", x.proves(0, 1, 2), 0);
        }
        load("..|oooo");
        due("proves(0, 0, 2)", x.proves(0, 0, 2), 0);
        due("proves(1, 0, 2)", x.proves(1, 0, 2), 1);
        x.setMode(1);
        due("proves(0, 0, 2)", x.proves(0, 0, 2), 1);
        due("proves(4, 4, 5)", x.proves(4, 4, 5), 1);
        x.setMode(0);
        // The board weighs 5, so 1, and each monomino 2 or 3: only 2 + 3 does it.
        load("##..|o|oc1");
        due("proves(1, 0, 4)", x.proves(1, 0, 4), 0);
        x.removePiece(0);
        due("proves(1, 0, 4)", x.proves(1, 0, 4), 1);
        // The board weighs 4, the domino 1, and there is no place for the upright one.
        load("..#.|o/o|oo");
        due("proves(1, 0, 3)", x.proves(1, 0, 3), 0);
        due("proves(1, 0, 4)", x.proves(1, 0, 4), 0);
        due("proves(1, 0, 5)", x.proves(1, 0, 5), 1);
        due("proves(2, 0, 5)", x.proves(2, 0, 5), 1);
        due("proves(0, 4, 5)", x.proves(0, 4, 5), 0);
    }

    private static void promise28() {
        begin(28);
        String[] texts = {"#", "..", "##.", "###...", "./.", "..|ox2", "..|oooo", "#/#/.", "..|ox9"};
        int[] free = {-9, 210, 310, 510, 201, -9, 210, 301, -9};
        int[] exact = {-9, 210, 310, 510, 201, -9, 200, 301, -9};
        for (int i = 0; i < texts.length; i++) {
            fresh(texts[i]);
            due("proof() of " + texts[i], x.proof(), free[i]);
            x.setMode(1);
            due("proof() with mode 1 of " + texts[i], x.proof(), exact[i]);
        }
        fresh("#.../..../..../...#|ootx7");
        due("proof()", x.proof(), -9);
        x.setMode(1);
        due("proof()", x.proof(), 211);
    }

    private static void promise29() {
        begin(29);
        due("undo()", x.undo(), -2);
        x.setBoard(3, 2);
        x.setHole(1, 1);
        x.setColour(2, 3);
        x.addPiece(3, 1, 2);
        x.setCopies(0, 4);
        due("count(9)", x.count(9), 5);
        x.setMode(1);
        due("count(9)", x.count(9), 6);
        x.setRule(1);
        due("count(9)", x.count(9), 6);
        append("..|o");
        due("load()", x.load(), 1);
        due("removePiece(0)", x.removePiece(0), 0);
        append("..");
        due("undo()", x.undo(), 5);
        due("count(3)", x.count(3), 1);
        due("undo()", x.undo(), 4);
        int[] counts = {3, 2, 5, 1, 1, 1, 8, 3, 1, 4};
        for (int what = 0; what < counts.length; what++) {
            due("count(" + what + ")", x.count(what), counts[what]);
        }
        due("undo()", x.undo(), 3);
        due("count(5)", x.count(5), 0);
        due("undo()", x.undo(), 2);
        due("count(4)", x.count(4), 0);
        due("undo()", x.undo(), 1);
        due("piece(0, 3)", x.piece(0, 3), 1);
        due("undo()", x.undo(), 0);
        due("count(3)", x.count(3), 0);
        due("colour(2)", x.colour(2), 3);
        due("colour(1)", x.colour(1), -9);
        due("undo()", x.undo(), -2);
        due("colour(2)", x.colour(2), 3);
        due("clearText()", x.clearText(), 2);
        // What follows from the state is worked out anew.
        fresh("../..|oox2");
        due("covers()", x.covers(), 1);
        x.addPiece(17, 0, 0);
        x.setCopies(1, 2);
        due("covers()", x.covers(), 2);
        due("useful(0)", x.useful(0), 2);
        due("undo()", x.undo(), 2);
        due("covers()", x.covers(), 1);
        due("undo()", x.undo(), 1);
        due("useful(1)", x.useful(1), -1);
        due("undo()", x.undo(), 0);
        due("count(2)", x.count(2), 16);
    }

    public static void main(String[] args) {
        promise1();
        promise2();
        promise3();
        promise4();
        promise5();
        promise6();
        promise7();
        promise8();
        promise9();
        promise10();
        promise11();
        promise12();
        promise13();
        promise14();
        promise15();
        promise16();
        promise17();
        promise18();
        promise19();
        promise20();
        promise21();
        promise22();
        promise23();
        promise24();
        promise25();
        promise26();
        promise27();
        promise28();
        promise29();
        System.out.println(wrong == 0 ? "all answers are as due"
                : wrong + " answers are not as due");
        if (wrong != 0) {
            System.exit(1);
        }
    }
}
