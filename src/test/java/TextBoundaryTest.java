/** The boundary cases of the text: its length, its parts, and where an error is told. */
public final class TextBoundaryTest extends Boundaries {
    private static final String GREATEST_BOARD = "....../#...../....../....../1...../.....3";
    private static final String EIGHT_PIECES = "|o|o|o|o|o|o|o|o";
    /** 41 characters of the board, 7 pieces with 15 and one with 14 characters. */
    private static final String LONGEST = GREATEST_BOARD + "|oooo/o...tc1x9".repeat(7)
            + "|oooo/o...c2x8";

    /** The text is a problem with so many pieces, which takes the place of another problem. */
    private static void reads(String text, int pieces) {
        fresh();
        bench.call("addPiece", 3, 1, 0);
        bench.append(text);
        expect(pieces, bench.call("load"), "load() of \"" + text + "\"");
        due(pieces, "count", 3);
        due(2, "count", 9);
        due(0, "clearText");
    }

    /** The text is no problem: the position is due, nothing changes, and the text is kept. */
    private static void refuses(String text, int position) {
        fresh();
        bench.call("addPiece", 3, 1, 0);
        bench.append(text);
        unchanged(-10 - position, "load");
        expect(-10 - position, bench.call("load"), "load() of \"" + text + "\"");
        due(text.length(), "clearText");
    }

    /** Behind this beginning only these characters are allowed, of all there are. */
    private static void goesOnWith(String beginning, String allowed) {
        int errorThere = -10 - beginning.length();
        for (int character = 0; character <= 255; character++) {
            fresh();
            bench.append(beginning);
            bench.call("appendCharacter", character);
            int answer = bench.call("load");
            // What is allowed there may still lack something at the end of the text.
            boolean good = allowed.indexOf(character) < 0 ? answer == errorThere
                    : answer >= 0 || answer == errorThere - 1;
            if (!good) {
                fail("load() of \"" + beginning + "\" and the character " + character
                        + " answered " + answer);
            }
        }
    }

    private static void lengths() {
        say(DESCRIPTION, "A problem can be read from a text of at most 160 characters, which is"
                + " built one character at a time.");
        for (int length = 1; length <= 160; length++) {
            due(length, "appendCharacter", LONGEST.charAt(length - 1));
        }
        unchanged(NO_ROOM, "appendCharacter", '|');
        due(8, "load");
        due(35, "count", 2);
        due(2, "piece", 7, 2);
        due(8, "piece", 7, 3);
        due(0, "clearText");
    }

    private static void appending() {
        say(15, "Appends a character to the text.");
        due(1, "appendCharacter", '.');
        due(2, "appendCharacter", '#');
        due(0, "load");
        dueAll("colour", 0, NONE, INVALID);

        say(15, "`character`: character code, 0 to 255");
        due(1, "appendCharacter", 0);
        due(2, "appendCharacter", 255);
        range(0, 0, 255, "appendCharacter", 0);
        // What would be a "." if it were cut to 8 or 16 bits.
        unchanged(INVALID, "appendCharacter", 256 + '.');
        unchanged(INVALID, "appendCharacter", 65536 + '.');
        unchanged(INVALID, "appendCharacter", '.' - 256);

        say(15, "Returns the new length of the text; INVALID_ARGUMENT if character is out of range;"
                + " CAPACITY_EXCEEDED if the text has 160 characters.");
        for (int length = 1; length <= 160; length++) {
            due(length, "appendCharacter", '.');
        }
        unchanged(NO_ROOM, "appendCharacter", '.');
        unchanged(NO_ROOM, "appendCharacter", 0);
        unchanged(NO_ROOM, "appendCharacter", 255);
        unchanged(INVALID, "appendCharacter", 256);
        unchanged(INVALID, "appendCharacter", -1);
        due(160, "clearText");
        due(1, "appendCharacter", '.');
    }

    private static void clearing() {
        say(16, "Makes the text empty.");
        bench.append("..|o");
        due(4, "clearText");
        due(-10, "load");
        due(1, "appendCharacter", '.');
        due(0, "load");
        due(1, "count", 2);

        say(16, "Returns the previous length of the text.");
        due(0, "clearText");
        bench.call("appendCharacter", '.');
        due(1, "clearText");
        due(0, "clearText");
        bench.append(".".repeat(160));
        due(160, "clearText");
        due(0, "clearText");
        due(0, "count", 9);
    }

    private static void loading() {
        say(17, "Reads the text as a problem, in place of the board and all pieces; the mode and"
                + " the rule stay.");
        fresh("111/111/111|ootc1x9|oomc2x8|o");
        bench.call("setMode", 1);
        bench.call("setRule", 1);
        bench.append("#./..|o");
        due(1, "load");
        dueAll("count", 2, 2, 3, 1, 1, 1, 1, 3, 2, 4);
        dueAll("colour", NONE, 0, 0, 0, INVALID);
        for (int what = 0; what < 4; what++) {
            due(new int[] {1, 0, 0, 1}[what], "piece", 0, what);
        }
        due(INVALID, "piece", 1, 0);
        nothingStays(0);
        nothingStays(1);

        say(17, "The text becomes empty.");
        bench.append("..");
        due(0, "load");
        due(0, "clearText");
        due(-10, "load");
        bench.append(".");
        due(0, "load");
        due(1, "count", 0);

        say(17, "Returns the number of pieces; -10 minus the error position if the text is no"
                + " problem (then nothing changes, and the text is kept).");
        reads(".", 0);
        reads(".|o", 1);
        reads("." + EIGHT_PIECES, 8);
        refuses("", 0);
        refuses("x", 0);
        refuses("..x", 2);
        // An error at the last place there is, and one behind it.
        refuses(LONGEST.substring(0, 159) + "0", 159);
        refuses(LONGEST.substring(0, 158) + "tx", 160);
        // The text goes on where it stood.
        bench.append("../.");
        due(-14, "load");
        due(5, "appendCharacter", '#');
        due(0, "load");
        dueAll("colour", 0, 0, 0, NONE, INVALID);
        // What an earlier text said of a piece or of the board is forgotten.
        bench.append("33/33|ootc3x9|oomc2x8x");
        due(-31, "load");
        due(22, "clearText");
        bench.append("../..|o|o");
        due(2, "load");
        dueAll("colour", 0, 0, 0, 0, INVALID);
        for (int what = 0; what < 4; what++) {
            due(new int[] {1, 0, 0, 1}[what], "piece", 0, what);
            due(new int[] {1, 0, 0, 1}[what], "piece", 1, what);
        }
    }

    /** After each of these problems, each other one is answered as by a new object. */
    private static void nothingStays(int rule) {
        String[] texts = {"./././././.|oc1x6", "..|oc1x2", "#.#/..#|o/oc1|oc1", "...|oo", "....|oo",
            ".../...|o../oooc1|oc2|oc1", "..|o|o", "#.|o|o", "../..|ootx2", "##/##|oo", ".",
            "1./.2|oc1|oc2|ox2", "../..|ox4|ox4|ox4|oox2", "...#|oom"};
        for (String first : texts) {
            for (String second : texts) {
                fresh();
                bench.call("setRule", rule);
                bench.append(second);
                bench.call("load");
                String alone = answers();
                fresh();
                bench.call("setRule", rule);
                bench.append(first);
                bench.call("load");
                answers();
                bench.append(second);
                bench.call("load");
                if (!answers().equals(alone)) {
                    fail("something of " + first + " stays when " + second + " is loaded");
                }
            }
        }
    }

    private static String answers() {
        StringBuilder all = new StringBuilder();
        for (String name : new String[] {"covers", "tries", "classes", "fewest", "proof"}) {
            all.append(bench.call(name)).append(' ');
        }
        for (int what = 0; what <= 8; what++) {
            all.append(bench.call("count", what)).append(' ');
        }
        for (int cell = bench.call("count", 0) * bench.call("count", 1) - 1; cell >= 0; cell--) {
            all.append(bench.call("colour", cell)).append(' ');
            all.append(bench.call("usefulAt", cell)).append(' ');
            all.append(bench.call("coverAt", 0, cell)).append(' ');
            all.append(bench.call("coverAt", 1, cell)).append(' ');
        }
        for (int piece = bench.call("count", 3) - 1; piece >= 0; piece--) {
            for (int what = 0; what <= 6; what++) {
                all.append(bench.call("piece", piece, what)).append(' ');
            }
            all.append(bench.call("form", piece, 0)).append(' ');
            all.append(bench.call("used", 1, piece)).append(' ');
            all.append(bench.call("useful", piece)).append(' ');
        }
        for (int cover = 0; cover < 3; cover++) {
            all.append(bench.call("alike", 1, cover)).append(' ');
        }
        return all.append(bench.call("placement", 1, 4)).toString();
    }

    private static void boards() {
        say(DESCRIPTION, "It consists of rows of the board, separated by \"/\", and then of pieces,"
                + " perhaps none, each of which begins with \"|\".");
        reads("..", 0);
        reads("../..", 0);
        reads("..|o", 1);
        reads("..|o|o", 2);
        refuses("", 0);
        refuses("|o", 0);
        refuses("/..", 0);
        refuses("..//..", 3);
        refuses("../|o", 3);
        refuses("..o", 2);
        refuses("..||o", 3);
        refuses("..|o||o", 5);
        refuses("..|o/", 5);

        say(DESCRIPTION, "A row consists of 1 to 6 characters, all rows have the same length, and"
                + " there are 1 to 6 rows: \".\" is an open cell of the colour 0, a digit 1 to 3 one"
                + " of this colour, and \"#\" a hole.");
        for (int width = 1; width <= 6; width++) {
            for (int height = 1; height <= 6; height++) {
                String row = "/" + ".".repeat(width);
                reads(row.repeat(height).substring(1), 0);
                due(width, "count", 0);
                due(height, "count", 1);
            }
        }
        refuses(".......", 6);
        refuses(".......|o", 6);
        refuses("./././././././", 11);
        refuses("./././././././.", 11);
        refuses("../.", 4);
        refuses("./..", 3);
        fresh(".123#");
        dueAll("colour", 0, 1, 2, 3, NONE, INVALID);
        refuses("0", 0);
        refuses("4", 0);
        refuses(".0", 1);
        refuses(".4", 1);
        goesOnWith("", ".123#");
        goesOnWith(".", ".123#/|");
        goesOnWith("#", ".123#/|");
        goesOnWith(".....", ".123#/|");
        goesOnWith("......", "/|");
        goesOnWith("./", ".123#");
        goesOnWith("./.", "/|");
        goesOnWith("../.", ".123#");
        goesOnWith("../..", "/|");
        goesOnWith("...../.....", "/|");
        goesOnWith("....../.....", ".123#");
        goesOnWith("....../......", "/|");
        goesOnWith("././././.", "/|");
        goesOnWith("./././././", ".123#");
        goesOnWith("./././././.", "|");
        goesOnWith(GREATEST_BOARD.substring(0, 40), ".123#");
        goesOnWith(GREATEST_BOARD, "|");
    }

    private static void pieces() {
        say(DESCRIPTION, "A piece consists of rows, separated by \"/\", of 1 to 4 characters, all of"
                + " the same length, 1 to 4 rows: \"o\" is a square, \".\" is none;");
        for (int width = 1; width <= 4; width++) {
            for (int height = 1; height <= 4; height++) {
                String row = "/o" + ".".repeat(width - 1);
                reads(".|" + row.repeat(height).substring(1), 1);
                due(0x1111 & (1 << 4 * height) - 1, "piece", 0, 0);
            }
        }
        reads(".|..../..../..../...o", 1);
        due(1, "piece", 0, 0);
        reads(".|.oo./oo..", 1);
        due(0x36, "piece", 0, 0);
        refuses(".|ooooo", 6);
        refuses(".|o/o/o/o/o", 9);
        goesOnWith(".|", "o.");
        goesOnWith(".|o", "o./|tmcx");
        goesOnWith(".|.", "o./");
        goesOnWith(".|ooo", "o./|tmcx");
        goesOnWith(".|oooo", "/|tmcx");
        goesOnWith(".|....", "/");
        goesOnWith(".|o/", "o.");
        goesOnWith(".|o/o", "/|tmcx");
        goesOnWith(".|o/.", "/|tmcx");
        goesOnWith(".|oo/o", "o.");
        goesOnWith(".|oo/oo", "/|tmcx");
        goesOnWith(".|oooo/o..", "o.");
        goesOnWith(".|oooo/o...", "/|tmcx");
        goesOnWith(".|o/o/o", "/|tmcx");
        goesOnWith(".|o/o/o/", "o.");
        goesOnWith(".|o/o/o/o", "|tmcx");
        goesOnWith(".|./././.", "");
        goesOnWith(".|./././o", "|tmcx");
        goesOnWith(".|o|", "o.");
        goesOnWith("." + EIGHT_PIECES.substring(2), "o./|tmcx");
        goesOnWith("." + EIGHT_PIECES, "o./tmcx");
    }

    private static void options() {
        say(DESCRIPTION, "and then of options, each of which may occur once, in any order: \"t\" the"
                + " freedom 1, \"m\" the freedom 2 (\"t\" and \"m\" exclude each other), \"c\" and a"
                + " digit 1 to 3 the colour, \"x\" and a digit 1 to 9 the number of copies.");
        String[] orders = {"tc3x9", "tx9c3", "c3tx9", "c3x9t", "x9tc3", "x9c3t"};
        for (String order : orders) {
            reads(".|o" + order, 1);
            dueAllOf(1, 1, 3, 9);
            reads(".|o" + order.replace('t', 'm').replace('3', '1').replace('9', '1'), 1);
            dueAllOf(1, 2, 1, 1);
            refuses(".|o" + order + "t", 8);
            refuses(".|o" + order + "m", 8);
            refuses(".|o" + order + "c1", 8);
            refuses(".|o" + order + "x1", 8);
        }
        for (int copies = 1; copies <= 9; copies++) {
            reads(".|ox" + copies, 1);
            dueAllOf(1, 0, 0, copies);
        }
        for (int colour = 1; colour <= 3; colour++) {
            reads(".|oc" + colour, 1);
            dueAllOf(1, 0, colour, 1);
        }
        String[] twice = {"tt", "mm", "tm", "mt"};
        for (String two : twice) {
            refuses(".|o" + two, 4);
            refuses(".|oc1" + two, 6);
            refuses(".|o" + two.charAt(0) + "c1" + two.charAt(1), 6);
        }
        refuses(".|oc1c1", 5);
        refuses(".|oc1c2", 5);
        refuses(".|oc1tc2", 6);
        refuses(".|ox1x1", 5);
        refuses(".|ox1tx2", 6);
        refuses(".|oc0", 4);
        refuses(".|oc4", 4);
        refuses(".|ox0", 4);
        refuses(".|ox10", 5);
        goesOnWith(".|oc", "123");
        goesOnWith(".|ox", "123456789");
        goesOnWith(".|ot", "|cx");
        goesOnWith(".|om", "|cx");
        goesOnWith(".|oc1", "|tmx");
        goesOnWith(".|ox9", "|tmc");
        goesOnWith(".|otc1", "|x");
        goesOnWith(".|oc1m", "|x");
        goesOnWith(".|otx1", "|c");
        goesOnWith(".|oc1x1", "|tm");
        goesOnWith(".|otc1x1", "|");
        goesOnWith(".|otc", "123");
        goesOnWith("." + EIGHT_PIECES + "t", "cx");
        goesOnWith("." + EIGHT_PIECES + "tc1x1", "");

        say(DESCRIPTION, "Without options, the freedom and the colour are 0, and there is 1 copy.");
        reads(".|o", 1);
        dueAllOf(1, 0, 0, 1);
        // The options of the piece ahead do not stay.
        fresh(".|oomc3x9|o/o|oot");
        int[] second = {17, 0, 0, 1};
        int[] third = {3, 1, 0, 1};
        for (int what = 0; what < 4; what++) {
            due(second[what], "piece", 1, what);
            due(third[what], "piece", 2, what);
        }
    }

    private static void dueAllOf(int shape, int freedom, int colour, int copies) {
        due(shape, "piece", 0, 0);
        due(freedom, "piece", 0, 1);
        due(colour, "piece", 0, 2);
        due(copies, "piece", 0, 3);
    }

    private static void spaces() {
        say(DESCRIPTION, "Spaces (code 32) are not allowed.");
        String text = "#./.1|.o/oomx2c3|ot";
        reads(text, 2);
        for (int place = 0; place <= text.length(); place++) {
            refuses(text.substring(0, place) + " " + text.substring(place), place);
        }
        refuses(" ", 0);
    }

    private static void errorPositions() {
        say(DESCRIPTION, "The error position is the offset (from 0) of the first character that is"
                + " not allowed where it stands;");
        refuses("x", 0);
        refuses(".x", 1);
        refuses(".x.x", 1);
        refuses("x|x", 0);
        refuses(".|ot0|o.o|q", 4);
        // At each place of a text a character that is allowed nowhere.
        String text = "1../#.3|oo/o.tc1x9|o";
        for (int place = 0; place < text.length(); place++) {
            refuses(text.substring(0, place) + "?" + text.substring(place + 1), place);
            refuses(text.substring(0, place) + (char) 0 + text.substring(place + 1), place);
        }

        say(DESCRIPTION, "this includes a character with which a row would be longer than the first"
                + " one,");
        refuses("./..", 3);
        refuses("../...", 5);
        refuses("../../...|o", 8);
        refuses("...../......", 11);
        refuses(".|o/oo", 5);
        refuses(".|o/o.", 5);
        refuses(".|oo/oo/ooo", 10);
        refuses(".|ooo/oooo", 9);

        say(DESCRIPTION, "whatever stands behind a shorter row (a separator, or an option of a"
                + " piece),");
        refuses("../.", 4);
        refuses("../.|o", 4);
        refuses("../.|", 4);
        refuses(".././..", 4);
        refuses("../../.|o", 7);
        refuses("../.x", 4);
        refuses(".|oo/o|o", 6);
        refuses(".|oo/o/oo", 6);
        for (String option : new String[] {"t", "m", "c1", "x1"}) {
            refuses(".|oo/o" + option, 6);
        }
        refuses(".|oo/oo/o", 9);

        say(DESCRIPTION, "a \"/\" ahead of a seventh row of the board or a fifth row of a piece,");
        reads("./././././.", 0);
        refuses("./././././././.", 11);
        refuses("./././././././", 11);
        refuses("./././././././|o", 11);
        refuses(GREATEST_BOARD + "/......", 41);
        reads(".|o/o/o/o", 1);
        refuses(".|o/o/o/o/o", 9);
        refuses(".|o/o/o/o/", 9);
        refuses(".|././o/o/.", 9);
        refuses(".|oo../..../..../..../....", 21);

        say(DESCRIPTION, "a ninth \"|\",");
        reads("." + EIGHT_PIECES, 8);
        refuses("." + EIGHT_PIECES + "|o", 17);
        refuses("." + EIGHT_PIECES + "|", 17);
        refuses("." + EIGHT_PIECES + "tc1x9|o", 22);
        refuses("." + EIGHT_PIECES + "|o|o", 17);

        say(DESCRIPTION, "and the character behind the rows of a piece (or the length of the text)"
                + " if its squares are none, more than 5, or do not hang together.");
        refuses(".|.", 3);
        refuses(".|.|o", 3);
        refuses(".|.t", 3);
        refuses(".|.x", 3);
        refuses(".|..../..../..../....", 21);
        refuses(".|..../..../..../....m", 21);
        refuses(".|..../..../..../..../", 21);
        reads(".|oooo/o...", 1);
        refuses(".|oooo/oo..", 11);
        refuses(".|oooo/oo..|o", 11);
        refuses(".|oooo/oo..x1", 11);
        refuses(".|oooo/oooo/oooo/oooo", 21);
        refuses(".|oooo/oooo/oooo/oooot", 21);
        refuses(".|ooo/ooo", 9);
        refuses(".|o.o", 5);
        refuses(".|o.o|o", 5);
        refuses(".|o.oc1", 5);
        refuses(".|o./.o", 7);
        refuses(".|...o/o...", 11);
        refuses(".|o/./o", 7);
        refuses(".|o/./ox1", 7);
        refuses(".|o.o/o.o|o", 9);
        reads(".|o.o/ooo", 1);
        refuses(".|o|o.o|o", 7);
        // A later row may make whole what does not hang together yet.
        reads(".|o.o/ooo/...", 1);
        refuses(".|oo./..o", 9);
        reads(".|oo./.oo", 1);
    }

    private static void endings() {
        say(DESCRIPTION, "If the text ends where something is missing, the error position is its"
                + " length.");
        String[] texts = {"", "./", "../.", "....../.....", "./././././", ".|", ".|o|", ".|o/",
            ".|oo/", ".|oo/o", ".|oo/.", ".|o/o/o/", ".|oc", ".|ox", ".|otc", ".|oc1x", ".|.",
            ".|o.o", "./.|", ".|otx9c", "." + EIGHT_PIECES.substring(0, 15)};
        for (String text : texts) {
            refuses(text, text.length());
        }
        // 160 characters, of which the last one asks for one more.
        refuses(LONGEST.substring(0, 157) + "3tx", 160);
    }

    public static void main(String[] args) {
        lengths();
        appending();
        clearing();
        loading();
        boards();
        pieces();
        options();
        spaces();
        errorPositions();
        endings();
        finish();
    }
}
