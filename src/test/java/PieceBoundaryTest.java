import java.util.Arrays;

/** The boundary cases of the pieces: shapes, forms, copies, placements. */
public final class PieceBoundaryTest extends Boundaries {
    private static final int GRID_NUMBERS = 1 << 16;

    private static void pieceNumbers() {
        say(DESCRIPTION, "There are at most 8 pieces, numbered from 0 in the order in which they"
                + " were added.");
        int[] shapes = {1, 3, 7, 15, 17, 19, 51, 31};
        for (int piece = 0; piece < 8; piece++) {
            due(piece, "count", 3);
            due(piece, "addPiece", shapes[piece], 0, 0);
        }
        for (int piece = 0; piece < 8; piece++) {
            due(shapes[piece], "piece", piece, 0);
        }
        unchanged(NO_ROOM, "addPiece", 1, 0, 0);
        due(INVALID, "piece", 8, 0);
        due(7, "removePiece", 0);
        due(7, "addPiece", 273, 0, 0);
        due(273, "piece", 7, 0);
        due(3, "piece", 0, 0);
        unchanged(NO_ROOM, "addPiece", 1, 0, 0);
    }

    private static int column(int square) {
        return square % 4;
    }

    private static int row(int square) {
        return square / 4;
    }

    /** Which numbers are shapes: single squares, and shapes with a square more that touches. */
    private static boolean[] grownShapes() {
        boolean[] shapes = new boolean[GRID_NUMBERS];
        for (int square = 0; square < 16; square++) {
            shapes[1 << square] = true;
        }
        for (int number = 1; number < GRID_NUMBERS; number++) {
            if (shapes[number] && Integer.bitCount(number) < 5) {
                growShape(shapes, number);
            }
        }
        return shapes;
    }

    private static void growShape(boolean[] shapes, int number) {
        for (int old = 0; old < 16; old++) {
            for (int square = 0; square < 16; square++) {
                if ((number >> old & 1) == 1 && Math.abs(column(old) - column(square))
                        + Math.abs(row(old) - row(square)) == 1) {
                    shapes[number | 1 << square] = true;
                }
            }
        }
    }

    private static int shifted(int number) {
        int left = 3;
        int top = 3;
        for (int square = 0; square < 16; square++) {
            if ((number >> square & 1) == 1) {
                left = Math.min(left, column(square));
                top = Math.min(top, row(square));
            }
        }
        int moved = 0;
        for (int square = 0; square < 16; square++) {
            if ((number >> square & 1) == 1) {
                moved |= 1 << (4 * (row(square) - top) + column(square) - left);
            }
        }
        return moved;
    }

    private static void allNumbers() {
        say(DESCRIPTION, "A shape is a set of 1 to 5 squares of a grid of 4 columns and 4 rows,"
                + " written as bits (bit 4 * row + column), which hang together by touching squares"
                + " (squares touch if they have a side in common);");
        boolean[] shapes = grownShapes();
        for (int number = 0; number < GRID_NUMBERS; number++) {
            if (bench.callCount() >= Bench.MOST_CALLS - 2) {
                fresh();
            }
            due(shapes[number] ? 0 : INVALID, "addPiece", number, 0, 0);
            if (shapes[number]) {
                due(0, "removePiece", 0);
            }
        }

        say(DESCRIPTION, "shapes that differ only by a shift are the same shape. To normalize a"
                + " shape means to shift it to the left and to the top as far as possible.");
        for (int number = 0; number < GRID_NUMBERS; number++) {
            if (bench.callCount() >= Bench.MOST_CALLS - 3) {
                fresh();
            }
            if (shapes[number]) {
                bench.call("addPiece", number, 0, 0);
                due(shifted(number), "piece", 0, 0);
                bench.call("removePiece", 0);
            }
        }
    }

    private static void shapes() {
        say(5, "`shape`: a shape as bits, shifted or not; a number with other bits than 0 to 15"
                + " is none");
        // None, one, five and six squares; the whole grid.
        int[] good = {1, 1 << 15, 0x1F, 0xF800, 0x4E40};
        int[] bad = {0, 0x3F, 0xFC00, 0xFFFF, 0x0033 | 0x0C00};
        for (int shape : good) {
            due(0, "addPiece", shape, 0, 0);
            due(0, "removePiece", 0);
        }
        for (int shape : bad) {
            unchanged(INVALID, "addPiece", shape, 0, 0);
        }
        // The end of a row and the beginning of the next one, corners, rows with one between them.
        for (int shape : new int[] {0x18, 0x180, 0x1800, 0x21, 0x12, 0x101, 5, 0x8001}) {
            unchanged(INVALID, "addPiece", shape, 0, 0);
        }
        for (int bit = 16; bit < 32; bit++) {
            unchanged(INVALID, "addPiece", 1 << bit, 0, 0);
            unchanged(INVALID, "addPiece", 1 << bit | 1, 0, 0);
        }
        for (int shape : new int[] {-1, MIN, MAX, 65536, 65537, -65535}) {
            unchanged(INVALID, "addPiece", shape, 0, 0);
        }
        due(0, "addPiece", 1 << 15, 0, 0);
        due(1, "piece", 0, 0);

        say(5, "`freedom`: 0 to 2");
        due(0, "addPiece", 19, 0, 0);
        due(1, "addPiece", 19, 2, 0);
        due(0, "piece", 0, 1);
        due(2, "piece", 1, 1);
        range(1, 0, 2, "addPiece", 19, 0, 0);

        say(5, "`colour`: 0 to 3");
        due(0, "addPiece", 19, 0, 0);
        due(1, "addPiece", 19, 0, 3);
        due(0, "piece", 0, 2);
        due(3, "piece", 1, 2);
        range(2, 0, 3, "addPiece", 19, 0, 0);

        say(5, "Adds a piece with 1 copy.");
        fresh("....|oox9");
        due(1, "addPiece", 3, 0, 0);
        due(1, "piece", 1, 3);
        due(9, "piece", 0, 3);
        // Nothing is left of the copies of a piece that has been removed.
        due(1, "removePiece", 0);
        bench.call("setCopies", 0, 9);
        due(0, "removePiece", 0);
        due(0, "addPiece", 3, 0, 0);
        due(1, "piece", 0, 3);

        say(5, "Returns the number of the piece; INVALID_ARGUMENT if shape is no shape, or another"
                + " argument is out of range; CAPACITY_EXCEEDED if there are 8 pieces.");
        for (int piece = 0; piece < 8; piece++) {
            due(piece, "addPiece", 1, 0, 0);
        }
        unchanged(NO_ROOM, "addPiece", 1, 2, 3);
        unchanged(INVALID, "addPiece", 0, 0, 0);
        unchanged(INVALID, "addPiece", 5, 0, 0);
        unchanged(INVALID, "addPiece", 65537, 0, 0);
        unchanged(INVALID, "addPiece", 1, 3, 0);
        unchanged(INVALID, "addPiece", 1, -1, 0);
        unchanged(INVALID, "addPiece", 1, 0, 4);
        unchanged(INVALID, "addPiece", 1, 0, -1);
    }

    private static void removing() {
        say(6, "Removes a piece. The pieces with greater numbers get numbers that are 1 less.");
        fresh(".|o|oo|ooo|oooo|o/o|o/o/o|o/o/o/o|oo/oom");
        bench.call("setCopies", 7, 9);
        due(7, "removePiece", 7);
        due(INVALID, "piece", 7, 0);
        bench.call("undo");
        due(7, "removePiece", 0);
        int[] left = {3, 7, 15, 17, 273, 4369, 51};
        for (int piece = 0; piece < 7; piece++) {
            due(left[piece], "piece", piece, 0);
        }
        due(2, "piece", 6, 1);
        due(9, "piece", 6, 3);
        due(6, "removePiece", 3);
        due(15, "piece", 2, 0);
        due(273, "piece", 3, 0);
        due(INVALID, "piece", 6, 0);

        say(6, "`piece`: number of a piece");
        range(0, 0, -1, "removePiece", 0);
        bench.call("addPiece", 1, 0, 0);
        range(0, 0, 0, "removePiece", 0);
        for (int piece = 1; piece < 8; piece++) {
            bench.call("addPiece", 1, 0, 0);
        }
        range(0, 0, 7, "removePiece", 0);

        say(6, "Returns the number of pieces then; INVALID_ARGUMENT if there is no such piece.");
        fresh(".|o|o");
        unchanged(INVALID, "removePiece", 2);
        due(1, "removePiece", 1);
        unchanged(INVALID, "removePiece", 1);
        due(0, "removePiece", 0);
        unchanged(INVALID, "removePiece", 0);
    }

    private static void copies() {
        say(DESCRIPTION, "A piece has a shape, a freedom, a colour from 0 to 3, and a number of"
                + " copies from 1 to 9.");
        fresh(".|oomc3x9|o");
        int[][] pieces = {{3, 2, 3, 9}, {1, 0, 0, 1}};
        for (int what = 0; what < 4; what++) {
            due(pieces[0][what], "piece", 0, what);
            due(pieces[1][what], "piece", 1, what);
        }

        say(7, "`piece`: number of a piece");
        range(0, 0, -1, "setCopies", 0, 1);
        bench.call("addPiece", 1, 0, 0);
        bench.call("addPiece", 1, 0, 0);
        range(0, 0, 1, "setCopies", 0, 9);
        due(1, "setCopies", 1, 9);
        due(1, "piece", 0, 3);

        say(7, "`copies`: 1 to 9");
        bench.call("addPiece", 1, 0, 0);
        due(1, "setCopies", 0, 9);
        due(9, "setCopies", 0, 1);
        range(1, 1, 9, "setCopies", 0, 1);

        say(7, "Sets the number of copies of a piece.");
        fresh("../..|ox3");
        due(0, "covers");
        bench.call("setCopies", 0, 4);
        due(1, "covers");
        due(4, "piece", 0, 3);

        say(7, "Returns the previous number; INVALID_ARGUMENT if an argument is out of range.");
        fresh("..|o|ox9");
        due(1, "setCopies", 0, 1);
        due(1, "setCopies", 0, 5);
        due(5, "setCopies", 0, 9);
        due(9, "setCopies", 1, 9);
        unchanged(INVALID, "setCopies", 2, 0);
        unchanged(INVALID, "setCopies", 2, 5);
        unchanged(INVALID, "setCopies", 1, 10);
    }

    private static void properties() {
        say(12, "Returns a property of a piece.");
        fresh("..../....|o../ooomc3x9|otc1");
        int[] first = {113, 2, 3, 9, 4, 8, 8};
        int[] second = {1, 1, 1, 1, 1, 1, 8};
        for (int what = 0; what < 7; what++) {
            due(first[what], "piece", 0, what);
            due(second[what], "piece", 1, what);
        }

        say(12, "`piece`: number of a piece");
        range(0, 0, -1, "piece", 0, 0);
        bench.call("addPiece", 1, 0, 0);
        due(1, "piece", 0, 0);
        range(0, 0, 0, "piece", 0, 0);

        say(12, "`what`: 0 its normalized shape, 1 its freedom, 2 its colour, 3 its copies,"
                + " 4 the number of its squares, 5 the number of its forms,"
                + " 6 the number of its placements");
        bench.call("addPiece", 0x8000, 0, 0);
        int[] least = {1, 0, 0, 1, 1, 1, 16};
        bench.call("addPiece", 0xF800, 2, 3);
        bench.call("setCopies", 1, 9);
        int[] most = {0xF8, 2, 3, 9, 5, 8, 24};
        for (int what = 0; what < 7; what++) {
            due(least[what], "piece", 0, what);
            due(most[what], "piece", 1, what);
        }
        range(1, 0, 6, "piece", 0, 0);
        bench.call("setBoard", 1, 1);
        due(1, "piece", 0, 6);
        due(0, "piece", 1, 6);

        say(12, "Returns the property; INVALID_ARGUMENT if there is no such piece or what is out"
                + " of range.");
        fresh(".|o");
        unchanged(INVALID, "piece", 1, 0);
        unchanged(INVALID, "piece", 0, 7);
        unchanged(INVALID, "piece", 1, 7);
        unchanged(INVALID, "piece", -1, -1);
    }

    private static void formsAreDue(int shape, int freedom, int... forms) {
        fresh();
        bench.call("addPiece", shape, freedom, 0);
        due(forms.length, "piece", 0, 5);
        for (int form = 0; form < forms.length; form++) {
            due(forms[form], "form", 0, form);
        }
        due(NONE, "form", 0, forms.length);
    }

    private static void forms() {
        say(DESCRIPTION, "The forms of a piece are the normalized shapes that arise from its shape:"
                + " with the freedom 0 the shape itself; with 1 its turns by 0, 90, 180 and 270"
                + " degrees; with 2 these and the mirror images of all of them;");
        formsAreDue(0x2E00, 0, 0x17);
        formsAreDue(0x2E00, 1, 0x17, 0x74, 0x223, 0x311);
        formsAreDue(0x2E00, 2, 0x17, 0x47, 0x71, 0x74, 0x113, 0x223, 0x311, 0x322);

        say(DESCRIPTION, "equal ones count once. They are numbered from 0 by ascending bits (as a"
                + " number).");
        // 1, 2, 4 and 8 forms; with the freedom 1 at most 4.
        formsAreDue(1, 2, 1);
        formsAreDue(0xCC00, 2, 0x33);
        formsAreDue(0x4E40, 2, 0x272);
        formsAreDue(0xF000, 2, 0xF, 0x1111);
        formsAreDue(0x63, 1, 0x63, 0x132);
        formsAreDue(0x63, 2, 0x36, 0x63, 0x132, 0x231);
        formsAreDue(0x31, 2, 0x13, 0x23, 0x31, 0x32);
        formsAreDue(0x1F, 1, 0x1F, 0xF8, 0x2223, 0x3111);
        formsAreDue(0x1F, 2, 0x1F, 0x8F, 0xF1, 0xF8, 0x1113, 0x2223, 0x3111, 0x3222);
        byAscendingBits();

        say(13, "`piece`: number of a piece");
        range(0, 0, -1, "form", 0, 0);
        bench.call("addPiece", 3, 1, 0);
        bench.call("addPiece", 1, 1, 0);
        due(3, "form", 0, 0);
        due(1, "form", 1, 0);
        range(0, 0, 1, "form", 0, 0);

        say(13, "`form`: its number, from 0");
        bench.call("addPiece", 3, 1, 0);
        due(3, "form", 0, 0);
        due(0x11, "form", 0, 1);
        unchanged(INVALID, "form", 0, -1);
        unchanged(INVALID, "form", 0, MIN);

        say(13, "Returns a form of a piece.");
        bench.call("addPiece", 0xC800, 1, 0);
        bench.call("addPiece", 0xC800, 0, 0);
        int[] turns = {0x13, 0x23, 0x31, 0x32};
        for (int form = 0; form < 4; form++) {
            due(turns[form], "form", 0, form);
        }
        due(0x32, "form", 1, 0);

        say(13, "Returns the normalized shape; INVALID_ARGUMENT if there is no such piece or form"
                + " is negative; NONE if there are not so many forms.");
        bench.call("addPiece", 0x1F, 2, 0);
        due(0x3222, "form", 0, 7);
        unchanged(NONE, "form", 0, 8);
        unchanged(NONE, "form", 0, MAX);
        unchanged(INVALID, "form", 1, 0);
        unchanged(INVALID, "form", 1, 8);
        unchanged(INVALID, "form", 1, -1);
        // The forms of one piece do not run into those of the next.
        bench.call("addPiece", 0x1F, 2, 0);
        due(NONE, "form", 0, 8);
        due(0x1F, "form", 1, 0);
        bench.call("addPiece", 1, 2, 0);
        due(NONE, "form", 2, 1);
        bench.call("removePiece", 2);
        due(INVALID, "form", 2, 0);
        // Nor do those of a piece stay when another one gets its number.
        bench.call("setMode", 1);
        bench.call("removePiece", 0);
        bench.call("removePiece", 0);
        bench.call("addPiece", 3, 1, 0);
        due(3, "form", 0, 0);
        due(0x11, "form", 0, 1);
        due(NONE, "form", 0, 2);
    }

    /** For all shapes: forms ascend, each is there once, and their number divides 8. */
    private static void byAscendingBits() {
        boolean[] shapes = grownShapes();
        for (int shape = 0; shape < GRID_NUMBERS; shape++) {
            if (shapes[shape] && shifted(shape) == shape) {
                fresh();
                bench.call("addPiece", shape, 2, 0);
                int size = bench.call("piece", 0, 5);
                int[] forms = new int[size];
                boolean itself = false;
                for (int form = 0; form < size; form++) {
                    forms[form] = bench.call("form", 0, form);
                    itself |= forms[form] == shape;
                }
                boolean ascending = true;
                for (int form = 1; form < size; form++) {
                    ascending &= forms[form - 1] < forms[form];
                }
                if (!itself || !ascending || 8 % size != 0) {
                    fail("the forms of " + shape + " are " + Arrays.toString(forms));
                }
            }
        }
    }

    private static void partsAreDue(int placement, int... parts) {
        for (int part = 0; part < parts.length; part++) {
            due(parts[part], "placement", placement, part);
        }
    }

    private static void placements() {
        say(DESCRIPTION, "A placement of a piece is a form of it shifted to cells of the board, all"
                + " of which are open, such that each of these cells has the colour 0 or the colour"
                + " of the piece.");
        // A bar on boards that are just too short, just long enough, and one longer.
        String[] texts = {"...|oooo", "....|oooo", ".....|oooo", "././.|o/o/o/o", "./././.|o/o/o/o",
            "././././.|o/o/o/o", "...|o/o", ".../...|oooo", "...../...../.....|oooo",
            // A hole, or a cell of another colour, at each end and in the middle.
            "#..|oo", ".#.|oo", "..#|oo", "1..|oo", ".1.|oo", "..1|oo", "1..|ooc1", "1..|ooc2",
            "123|oc1", "123|oc2", "123|oc3", "123|o", "11/11|oo/ooc1", "11/12|oo/ooc1",
            "11/1#|oo/ooc1", "11/1#|oo/o.c1", "#|o", ".|o", ".|oo"};
        int[] numbers = {0, 1, 2, 0, 1, 2, 0, 0, 6,
            1, 0, 1, 1, 0, 1, 2, 1,
            1, 1, 1, 0, 1, 0, 0, 1, 0, 1, 0};
        for (int i = 0; i < texts.length; i++) {
            fresh(texts[i]);
            expect(numbers[i], bench.call("count", 7), "count(7) of " + texts[i]);
        }
        // The corner of the grid may lie on a hole, but not beside the board.
        fresh("#../..#|.oo/oo.");
        due(1, "count", 7);
        partsAreDue(0, 0, 0, 0, 1, 4);

        say(DESCRIPTION, "The placements of all pieces are numbered from 0, by ascending pieces,"
                + " then by ascending forms, then by ascending numbers of the cell at which the"
                + " top left corner of the grid lies.");
        fresh("../..|ootc1|o");
        int[][] parts = {{0, 0, 0, 0, 1}, {0, 0, 2, 2, 3}, {0, 1, 0, 0, 2}, {0, 1, 1, 1, 3},
            {1, 0, 0, 0, 0}, {1, 0, 1, 1, 1}, {1, 0, 2, 2, 2}, {1, 0, 3, 3, 3}};
        due(parts.length, "count", 7);
        for (int placement = 0; placement < parts.length; placement++) {
            partsAreDue(placement, parts[placement]);
        }
        // By the corner, not by the smallest cell, nor by the greatest.
        fresh("...../.....|.oo/oo.|o");
        partsAreDue(0, 0, 0, 0, 1, 6);
        partsAreDue(1, 0, 0, 1, 2, 7);
        partsAreDue(2, 0, 0, 2, 3, 8);
        partsAreDue(3, 1, 0, 0, 0, 0);

        say(14, "`placement`: its number, from 0");
        bench.call("addPiece", 3, 0, 0);
        due(0, "placement", 0, 0);
        unchanged(INVALID, "placement", -1, 0);
        unchanged(INVALID, "placement", MIN, 0);

        say(14, "`part`: 0 its piece, 1 its form, 2 the cell at which the top left corner of the"
                + " grid lies, 3 its smallest cell, 4 its greatest cell");
        bench.call("addPiece", 0x63, 2, 0);
        range(1, 0, 4, "placement", 0, 0);
        bench.call("setBoard", 6, 6);
        for (int piece = 1; piece < 8; piece++) {
            bench.call("addPiece", 55, 2, 0);
        }
        // The first and the last one of the greatest board.
        partsAreDue(0, 0, 0, 0, 1, 7);
        due(80 + 7 * 160, "count", 7);
        partsAreDue(1199, 7, 7, 22, 23, 35);
        due(NONE, "placement", 1200, 0);

        say(14, "Returns a part of a placement.");
        fresh(".../...|oo/o.|o");
        partsAreDue(1, 0, 0, 1, 1, 4);
        partsAreDue(7, 1, 0, 5, 5, 5);

        say(14, "Returns the part; INVALID_ARGUMENT if placement is negative or part is out of"
                + " range; NONE if there are not so many placements.");
        unchanged(NONE, "placement", 0, 0);
        unchanged(INVALID, "placement", 0, 5);
        unchanged(INVALID, "placement", -1, 0);
        bench.call("addPiece", 1, 0, 0);
        due(15, "placement", 15, 4);
        unchanged(NONE, "placement", 16, 4);
        unchanged(NONE, "placement", MAX, 0);
        unchanged(INVALID, "placement", 16, 5);
        unchanged(INVALID, "placement", 16, -1);
        unchanged(INVALID, "placement", -1, 5);
    }

    public static void main(String[] args) {
        pieceNumbers();
        allNumbers();
        shapes();
        removing();
        copies();
        properties();
        forms();
        placements();
        finish();
    }
}
