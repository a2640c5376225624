/** The boundary cases of the board: its size, its cells, holes, colours and symmetries. */
public final class BoardBoundaryTest extends Boundaries {
    private static void newObject() {
        say(1, "Creates a workbench with an open board of 4 by 4 cells, without pieces,"
                + " with an empty text.");
        dueAll("count", 4, 4, 16, 0, 0, 0, 0, 0, 8, 0, INVALID);
        for (int cell = 0; cell < 16; cell++) {
            due(0, "colour", cell);
        }
        due(INVALID, "colour", 16);
        due(INVALID, "piece", 0, 0);
        due(0, "clearText");
        unchanged(-10, "load");
        unchanged(ILLEGAL, "undo");
    }

    private static void sizes() {
        say(DESCRIPTION, "The board has a width w and a height h, 1 to 6 each (at first 4 and 4).");
        due(4, "count", 0);
        due(4, "count", 1);
        int[][] good = {{1, 1}, {1, 6}, {6, 1}, {6, 6}, {1, 2}, {5, 6}};
        for (int[] size : good) {
            due(size[0] * size[1], "setBoard", size[0], size[1]);
            due(size[0], "count", 0);
            due(size[1], "count", 1);
        }
        int[][] bad = {{0, 0}, {7, 7}, {0, 7}, {7, 0}, {-1, -1}, {-4, -4}};
        for (int[] size : bad) {
            unchanged(INVALID, "setBoard", size[0], size[1]);
        }

        say(2, "`width`: 1 to 6");
        due(1, "setBoard", 1, 1);
        due(6, "setBoard", 6, 1);
        for (int height = 1; height <= 6; height++) {
            range(0, 1, 6, "setBoard", 1, height);
        }
        // What a product, or a cut to fewer bits, would take for good.
        unchanged(INVALID, "setBoard", 65536, 65536);
        unchanged(INVALID, "setBoard", 257, 1);

        say(2, "`height`: 1 to 6");
        due(1, "setBoard", 1, 1);
        due(6, "setBoard", 1, 6);
        for (int width = 1; width <= 6; width++) {
            range(1, 1, 6, "setBoard", width, 1);
        }
        unchanged(INVALID, "setBoard", 1, 257);

        say(2, "Returns the number of cells; INVALID_ARGUMENT if an argument is out of range.");
        for (int width = 1; width <= 6; width++) {
            for (int height = 1; height <= 6; height++) {
                due(width * height, "setBoard", width, height);
                due(0, "colour", width * height - 1);
                due(INVALID, "colour", width * height);
            }
        }
    }

    private static void newBoards() {
        say(2, "Makes a new board, all cells of which are open and have the colour 0."
                + " The pieces stay.");
        fresh("#1/23|ootc2x7|o");
        bench.call("setMode", 1);
        bench.call("setRule", 1);
        // The same size makes a new board, too.
        due(4, "setBoard", 2, 2);
        dueAll("colour", 0, 0, 0, 0, INVALID);
        dueAll("count", 2, 2, 4, 2, 1, 1, 15, 8, 8, 4);
        due(3, "piece", 0, 0);
        due(1, "piece", 0, 1);
        due(2, "piece", 0, 2);
        due(7, "piece", 0, 3);
        due(1, "piece", 1, 0);
        // Nothing of cells that were once there comes back with a larger board.
        fresh("######/######/######/######/######/######");
        due(1, "setBoard", 1, 1);
        due(36, "setBoard", 6, 6);
        due(36, "count", 2);
        for (int cell = 0; cell < 36; cell++) {
            due(0, "colour", cell);
        }
    }

    private static void cellNumbers() {
        say(DESCRIPTION, "The cell (x, y) has the number y * w + x; x is counted from the left,"
                + " y from the top.");
        fresh("12#/3..");
        dueAll("colour", 1, 2, NONE, 3, 0, 0, INVALID);
        fresh("1/2/#/3/./1");
        dueAll("colour", 1, 2, NONE, 3, 0, 1, INVALID);
        fresh("....../....../....../....../1...../#....2");
        due(1, "colour", 24);
        due(NONE, "colour", 30);
        due(2, "colour", 35);
        due(INVALID, "colour", 36);
    }

    private static void holes() {
        say(DESCRIPTION, "A cell is a hole, or open (at first all are open).");
        due(16, "count", 2);
        due(15, "setHole", 0, 1);
        due(NONE, "colour", 0);
        due(0, "colour", 1);

        say(3, "`cell`: number of a cell");
        due(15, "setHole", 0, 1);
        due(14, "setHole", 15, 1);
        range(0, 0, 15, "setHole", 0, 1);
        range(0, 0, 15, "setHole", 0, 0);
        bench.call("setBoard", 1, 1);
        range(0, 0, 0, "setHole", 0, 1);
        due(0, "setHole", 0, 1);
        bench.call("setBoard", 6, 6);
        due(35, "setHole", 35, 1);
        range(0, 0, 35, "setHole", 0, 1);
        // A cell that is there on a larger board only.
        bench.call("setBoard", 5, 6);
        range(0, 0, 29, "setHole", 0, 1);

        say(3, "`on`: 1 for a hole, 0 for an open cell");
        range(1, 0, 1, "setHole", 5, 1);
        due(15, "setHole", 5, 1);
        range(1, 0, 1, "setHole", 5, 0);
        due(16, "setHole", 5, 0);
        due(0, "colour", 5);

        say(3, "Makes a cell a hole, or open with the colour 0.");
        due(0, "setColour", 5, 3);
        due(15, "setHole", 5, 1);
        due(NONE, "colour", 5);
        due(16, "setHole", 5, 0);
        due(0, "colour", 5);

        say(3, "Returns the number of open cells then;");
        bench.call("setBoard", 2, 1);
        due(1, "setHole", 0, 1);
        due(0, "setHole", 1, 1);
        due(1, "setHole", 0, 0);
        due(2, "setHole", 1, 0);

        say(3, "INVALID_ARGUMENT if an argument is out of range; ILLEGAL_STATE if it is a hole,"
                + " or open, already.");
        unchanged(ILLEGAL, "setHole", 15, 0);
        bench.call("setHole", 15, 1);
        unchanged(ILLEGAL, "setHole", 15, 1);
        bench.call("setColour", 0, 3);
        unchanged(ILLEGAL, "setHole", 0, 0);
        unchanged(INVALID, "setHole", 15, 2);
        unchanged(INVALID, "setHole", 0, -1);
        unchanged(INVALID, "setHole", 16, 2);
    }

    private static void colours() {
        say(DESCRIPTION, "An open cell has a colour from 0 to 3 (at first 0).");
        due(0, "colour", 0);
        due(0, "setColour", 0, 3);
        due(3, "setColour", 0, 0);
        range(1, 0, 3, "setColour", 0, 0);

        say(4, "`cell`: number of a cell");
        due(0, "setColour", 0, 1);
        due(0, "setColour", 15, 1);
        range(0, 0, 15, "setColour", 0, 1);
        bench.call("setBoard", 6, 5);
        due(0, "setColour", 29, 1);
        range(0, 0, 29, "setColour", 0, 1);
        bench.call("setBoard", 1, 1);
        range(0, 0, 0, "setColour", 0, 1);

        say(4, "`colour`: 0 to 3");
        due(0, "setColour", 7, 0);
        due(0, "setColour", 7, 1);
        due(1, "setColour", 7, 2);
        due(2, "setColour", 7, 3);
        range(1, 0, 3, "setColour", 7, 3);

        say(4, "Sets the colour of an open cell.");
        due(0, "setColour", 7, 2);
        due(2, "colour", 7);
        due(0, "colour", 6);
        due(0, "colour", 8);
        due(2, "setColour", 7, 0);
        due(0, "colour", 7);

        say(4, "Returns the previous colour; INVALID_ARGUMENT if an argument is out of range;"
                + " ILLEGAL_STATE if the cell is a hole.");
        due(0, "setColour", 7, 3);
        due(3, "setColour", 7, 3);
        bench.call("setHole", 7, 1);
        unchanged(ILLEGAL, "setColour", 7, 0);
        unchanged(ILLEGAL, "setColour", 7, 3);
        unchanged(INVALID, "setColour", 7, 4);
        unchanged(INVALID, "setColour", 7, -1);
        unchanged(INVALID, "setColour", 16, 0);

        say(11, "`cell`: number of a cell");
        due(0, "colour", 0);
        due(0, "colour", 15);
        range(0, 0, 15, "colour", 0);
        bench.call("setBoard", 1, 6);
        due(0, "colour", 5);
        range(0, 0, 5, "colour", 0);

        say(11, "Returns the colour of a cell.");
        fresh(".123");
        dueAll("colour", 0, 1, 2, 3);

        say(11, "Returns the colour; INVALID_ARGUMENT if there is no such cell;"
                + " NONE if it is a hole.");
        fresh("3##1");
        dueAll("colour", 3, NONE, NONE, 1, INVALID);
        unchanged(NONE, "colour", 1);
        unchanged(INVALID, "colour", 4);
        unchanged(INVALID, "colour", -1);
    }

    /** The rule 1 leaves only the covers in which no cells of two placements touch. */
    private static void touching() {
        say(DESCRIPTION, "Two cells touch if they have a side in common.");
        String[] texts = {"..", "./.", ".#/#.", "#./.#", ".#.", "./#/.", "##./.##", "#./.#/##",
            ".####.", "#####./.#####", "./#/#/#/#/.", "######/######/######/######/####../######",
            "######/######/######/######/#####./#####."};
        int[] ruled = {0, 0, 1, 1, 1, 1, 1, 1, 1, 1, 1, 0, 0};
        for (int i = 0; i < texts.length; i++) {
            fresh(texts[i] + "|oc1x2");
            due(1, "covers");
            bench.call("setRule", 1);
            expect(ruled[i], bench.call("covers"), "covers() of " + texts[i]);
        }
    }

    private static void symmetries() {
        say(DESCRIPTION, "The symmetries of the board are those of the 8 turns and mirror images of"
                + " the plane (4 if w and h are different) that map the board onto itself, holes"
                + " to holes, and open cells to open cells of the same colour.");
        for (int width = 1; width <= 6; width++) {
            for (int height = 1; height <= 6; height++) {
                bench.call("setBoard", width, height);
                due(width == height ? 8 : 4, "count", 8);
            }
        }
        // All turns alone, all mirror images alone, one that is left, and none but the identity.
        String[] boards = {"#", "###/###", ".1../...1/1.../..1.", "1../.../..1", "1.1/.../1.1",
            "1./..", "11/..", "1./1.", "1../.1./..1", "1../.1./...", "12/..", "#1/1#", "#1/1.",
            "#./1.", "1./2.", "#./..", "1.#", "1#1", "1.2", "##./.##", "1../2..", "11./.11"};
        int[] symmetries = {8, 4, 4, 4, 8,
            2, 2, 2, 4, 2, 1, 4, 2,
            1, 1, 2, 2, 4, 2, 2, 1, 2};
        for (int i = 0; i < boards.length; i++) {
            fresh(boards[i]);
            expect(symmetries[i], bench.call("count", 8), "count(8) of " + boards[i]);
        }
    }

    private static void counts() {
        say(10, "Returns a number.");
        fresh("#./1./..|ootx9|oc1");
        bench.call("setMode", 1);
        bench.call("setRule", 1);
        dueAll("count", 2, 3, 5, 2, 1, 1, 19, 8, 1, 3, INVALID);

        say(10, "`what`: 0 the width, 1 the height, 2 the number of open cells, 3 the number of"
                + " pieces, 4 the mode, 5 the rule,");
        bench.call("setBoard", 1, 6);
        dueAll("count", 1, 6, 6, 0, 0, 0);
        for (int piece = 0; piece < 8; piece++) {
            due(piece, "count", 3);
            bench.call("addPiece", 1, 0, 0);
        }
        due(8, "count", 3);
        bench.call("setMode", 1);
        dueAll("count", 1, 6, 6, 8, 1, 0);
        bench.call("setRule", 1);
        dueAll("count", 1, 6, 6, 8, 1, 1);
        fresh("#");
        due(0, "count", 2);

        say(10, "6 the number of squares of all copies of all pieces,");
        due(0, "count", 6);
        bench.call("addPiece", 1, 0, 0);
        due(1, "count", 6);
        bench.call("setCopies", 0, 9);
        due(9, "count", 6);
        fresh("#|oooo/o...x9|oooo/o...x9|oooo/o...x9|oooo/o...x9"
                + "|oooo/o...x9|oooo/o...x9|oooo/o...x9|oooo/o...x9");
        due(360, "count", 6);

        say(10, "7 the number of placements,");
        due(0, "count", 7);
        bench.call("setBoard", 6, 6);
        // The form of six cells of which one is missing lies in 20 ways, in 8 forms.
        for (int piece = 0; piece < 8; piece++) {
            bench.call("addPiece", 55, 2, 0);
            due(160 * (piece + 1), "count", 7);
        }
        fresh("#|o");
        due(0, "count", 7);

        say(10, "8 the number of symmetries of the board,");
        due(8, "count", 8);
        bench.call("setHole", 1, 1);
        due(1, "count", 8);
        bench.call("undo");
        bench.call("setHole", 0, 1);
        due(2, "count", 8);

        say(10, "9 the number of states that are saved for undo()");
        for (int saved = 0; saved < 6; saved++) {
            due(saved, "count", 9);
            bench.call("setMode", 0);
        }
        due(6, "count", 9);
        bench.call("setMode", 0);
        due(6, "count", 9);

        say(10, "Returns the number; INVALID_ARGUMENT if what is out of range.");
        range(0, 0, 9, "count", 0);
        due(4, "count", 0);
        due(0, "count", 9);
    }

    public static void main(String[] args) {
        newObject();
        sizes();
        newBoards();
        cellNumbers();
        holes();
        colours();
        touching();
        symmetries();
        counts();
        finish();
    }
}
