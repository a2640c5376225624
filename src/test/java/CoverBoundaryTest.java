/** The boundary cases of the search: no cover, the empty one, the last try, covers found till then. */
public final class CoverBoundaryTest extends Boundaries {
    /** A problem with its rule, and how many covers are found within 20000 tries. */
    private record Scene(int rule, String text, int found) { }

    /**
     * The search needs 20000 tries. At the end, placements are met that do not fit: for they
     * overlap, for no copy is left, for the rule forbids it; in the last scene each one fits.
     */
    private static final Scene[] JUST_FINISHED = {
        new Scene(0, "....../....../......|o/o/omc1x6|omc1x5|o../ooomx8", 3320),
        new Scene(0, "...../...../.....|ox7|otc1x2|o/otc1x2", 0),
        new Scene(1, "#.../..../..../..../....|o/omx9|ootc2x6|ootc1", 0),
        new Scene(1, "....../....../...#..|o/omx5|omx5|oo/ootc1x9", 3629),
        new Scene(0, ".12.33/3#####|oc1x9|oc2x9|oc2x9|oc3x9|oc3x9|oc3x9|oc3x9|oc3x9", 16000)};

    /** The search would need 20001 tries; in the last scene the last try would be a cover. */
    private static final Scene[] JUST_UNFINISHED = {
        new Scene(0, "..../..../..../.1.1|omx8|o/omx6|ooc2x6", 0),
        new Scene(0, "...../...../...../..#../.....|ox3|oomc3x6|o../oooc1x9", 30),
        new Scene(0, "....../..#.../...###/##..../......|oo/.om|o../oootc1x8|otc1x4|o/otx2", 143),
        new Scene(1, "...../..2../...../.....|.o/oomc1x2|o../ooom|omx7|o/o/omc2x6", 3390),
        new Scene(0, "3.22.3/2.####|oc1x9|oc2x9|oc2x9|oc3x9|oc3x9|oc3x9", 15551)};
    private static final Scene NONE_FOUND = JUST_UNFINISHED[0];
    private static final Scene FEW_FOUND = JUST_UNFINISHED[1];
    private static final Scene MANY_FOUND = JUST_UNFINISHED[4];
    private static final int HOLE_OF_FEW_FOUND = 17;
    private static final int HOLE_OF_MANY_FOUND = 8;

    /** As many placements as there can be in a cover, and only one way to put them. */
    private static final String LONGEST_COVER = "111111/111222/222222/333333/333.../......"
            + "|oc1x9|oc2x9|oc3x9|ox9";
    /** Pieces with 160 placements each; the search is unfinished, but finds covers till then. */
    private static final String MOST_PLACEMENTS = "....../....../....../....../....../......"
            + "|ooo/oo.m|ooo/o..mx3|ooo/o..m|ooo/o..mx2|ooo/o..mx2|ooo/o..mx3|ooo/oo.mx3|ooo/o..m";
    /** The cover c has at each cell the piece that the bit of c tells, the first cell the highest. */
    private static final String BITS = "..../....|ox8|ox8";

    private static void set(Scene scene) {
        fresh(scene.text);
        bench.call("setRule", scene.rule);
    }

    private static void coverIsDue(int cover, int... placements) {
        for (int cell = 0; cell < placements.length; cell++) {
            due(placements[cell], "coverAt", cover, cell);
        }
    }

    /** The numbers of covers of texts with the mode 0 and with the mode 1. */
    private static void coversAreDue(String text, int free, int exact) {
        fresh(text);
        expect(free, bench.call("covers"), "covers() of " + text);
        bench.call("setMode", 1);
        expect(exact, bench.call("covers"), "covers() with the mode 1 of " + text);
    }

    private static void modes() {
        say(8, "`mode`: 0 or 1");
        due(0, "setMode", 0);
        due(0, "setMode", 1);
        range(0, 0, 1, "setMode", 0);

        say(8, "Sets the mode.");
        fresh(".|o|o");
        due(2, "covers");
        bench.call("setMode", 1);
        due(1, "count", 4);
        due(0, "count", 5);
        due(0, "covers");
        bench.call("setMode", 0);
        due(0, "count", 4);
        due(2, "covers");

        say(8, "Returns the previous mode; INVALID_ARGUMENT if mode is out of range.");
        due(0, "setMode", 1);
        due(1, "setMode", 1);
        unchanged(INVALID, "setMode", 2);
        unchanged(INVALID, "setMode", -1);
        due(1, "setMode", 0);
        due(0, "setMode", 0);
        due(4, "count", 9);
    }

    private static void rules() {
        say(9, "`rule`: 0 or 1");
        due(0, "setRule", 0);
        due(0, "setRule", 1);
        range(0, 0, 1, "setRule", 0);

        say(9, "Sets the rule.");
        fresh("..|oc1x2");
        due(1, "covers");
        bench.call("setRule", 1);
        due(1, "count", 5);
        due(0, "count", 4);
        due(0, "covers");
        bench.call("setRule", 0);
        due(0, "count", 5);
        due(1, "covers");

        say(9, "Returns the previous rule; INVALID_ARGUMENT if rule is out of range.");
        due(0, "setRule", 1);
        due(1, "setRule", 1);
        unchanged(INVALID, "setRule", 2);
        unchanged(INVALID, "setRule", -1);
        due(1, "setRule", 0);
        due(0, "setRule", 0);
        due(4, "count", 9);
    }

    private static void whatACoverIs() {
        say(DESCRIPTION, "A cover is a set of placements such that each open cell is in exactly one"
                + " of them,");
        coversAreDue("...|oox2", 0, 0);
        coversAreDue("....|oox2", 1, 1);
        coversAreDue("..#..|oox2", 1, 1);
        coversAreDue(".#.|oox2", 0, 0);
        coversAreDue("..#|oo", 1, 1);
        coversAreDue("....", 0, 0);

        say(DESCRIPTION, "no piece has more placements in it than copies (or exactly as many as"
                + " copies, if the mode is 1; it is 0 at first),");
        coversAreDue("../..|ox3", 0, 0);
        coversAreDue("../..|ox4", 1, 1);
        coversAreDue("../..|ox5", 1, 0);
        coversAreDue(".../.../...|ox9", 1, 1);
        coversAreDue("...../.....|ox9", 0, 0);
        coversAreDue("...../.....|ox9|o", 10, 10);
        coversAreDue("...../.....|ox8|o", 0, 0);
        coversAreDue("...../.....|ox9|ox2", 10 + 45, 0);
        coversAreDue(".|o|oo", 1, 0);
        coversAreDue(".|o|o", 2, 0);

        say(DESCRIPTION, "and, if the rule is 1 (at first it is 0), no cells of two different"
                + " placements touch whose pieces have the same colour, which is not 0.");
        String[] texts = {"..|ooc1", "..|oc1x2", "..|oc3x2", "..|oc1|oc1", "..|oc3|oc3",
            "..|oc1|oc2", "..|oc2|oc3", "..|oc1|o", "..|o|o", "..|ox2", "../..|oo/ooc1",
            "../..|ooc1x2", "../..|ooc1|ooc2", "../..|o/oc1x2", ".#/#.|oc1x2", "1.1|oc1x2|oc2",
            "1.1|oc1x3", "1#1|oc1x2",
            // What is there already touches from the left, from above, from below, from the right.
            "..|oc1|oc1", "./.|oc1|oc1", ".../...|o../oooc1|oc2|oc1", "#.#/..#|o/oc1|oc1",
            // It does not touch at all, though its numbers are as near.
            "#../.##|ooc1|oc1", "#.#/..#|o/oc2|oc1"};
        int[] ruled = {1, 0, 0, 0, 0,
            2, 2, 2, 2, 1, 1,
            0, 2, 0, 1, 1,
            0, 1,
            0, 0, 0, 0,
            1, 1};
        for (int i = 0; i < texts.length; i++) {
            fresh(texts[i]);
            int free = bench.call("covers");
            if (free < 1) {
                fail("without the rule, " + texts[i] + " has covers");
            }
            bench.call("setRule", 1);
            expect(ruled[i], bench.call("covers"), "covers() with the rule of " + texts[i]);
        }
    }

    private static void theSearch() {
        say(DESCRIPTION, "It begins with no placements. In each step, the smallest open cell that is"
                + " in no placement yet is taken; the placements that contain it are tried by"
                + " ascending numbers;");
        fresh("...|oox9|o");
        due(2, "covers");
        coverIsDue(0, 0, 0, 4);
        coverIsDue(1, 2, 1, 1);
        // A form that begins with its second column: its smallest cell is not its corner.
        fresh("#.#/..#/.##|.o/oo|o/o|ox4");
        due(4, "covers");
        coverIsDue(0, NONE, 0, NONE, 0, 0, NONE, 6, NONE, NONE);
        coverIsDue(1, NONE, 1, NONE, 4, 1, NONE, 6, NONE, NONE);
        coverIsDue(2, NONE, 3, NONE, 2, 5, NONE, 2, NONE, NONE);
        coverIsDue(3, NONE, 3, NONE, 4, 5, NONE, 6, NONE, NONE);

        say(DESCRIPTION, "one fits if it contains no cell that is in a placement already, its piece"
                + " has a copy left, and, if the rule is 1, it does not violate the rule together"
                + " with the placements that are there.");
        triesAreDue("...|oox9|o", 0, 4);
        triesAreDue("...|oox9|ox2", 0, 5);
        triesAreDue("...|oox9|ox3", 0, 6);
        triesAreDue("...|oc1x9|oc2x9", 0, 2 + 4 + 8);
        triesAreDue("...|oc1x9|oc2x9", 1, 2 + 2 + 2);
        triesAreDue("...|oc1x2|oc2x1", 1, 2 + 2 + 1);
        triesAreDue("....|oox1", 0, 1);
        triesAreDue("....|oox2", 0, 2);

        say(DESCRIPTION, "One that fits is put on the board, which is a try, and the search goes on"
                + " with the next step; afterwards it is taken back, and the next placement is"
                + " tried.");
        triesAreDue(".|o", 0, 1);
        triesAreDue(".|o|o", 0, 2);
        triesAreDue(".|o" + "|o".repeat(7), 0, 8);
        triesAreDue("..|o|o", 0, 4);
        triesAreDue("..|ox2|ox2", 0, 6);
        triesAreDue("...|oo", 0, 1);
        triesAreDue("#.|oo", 0, 0);

        say(DESCRIPTION, "When all open cells are in placements, a cover is found (with the mode 1"
                + " only if no copies are left). The covers are numbered from 0 in the order in"
                + " which they are found.");
        coversAreDue(LONGEST_COVER, 1, 1);
        coversAreDue("..|ox2", 1, 1);
        coversAreDue("..|ox3", 1, 0);
        fresh("..|o|o|oo");
        due(3, "covers");
        coverIsDue(0, 0, 3);
        coverIsDue(1, 2, 1);
        coverIsDue(2, 4, 4);
        coverIsDue(3, NONE, NONE);
        // With the mode 1, the covers that have copies left have no numbers.
        fresh("...|oo|ox3");
        due(3, "covers");
        coverIsDue(0, 0, 0, 4);
        coverIsDue(1, 2, 1, 1);
        coverIsDue(2, 2, 3, 4);
        bench.call("setMode", 1);
        due(0, "covers");
        coverIsDue(0, NONE, NONE, NONE);
        bench.call("setCopies", 1, 1);
        due(2, "covers");
        coverIsDue(1, 2, 1, 1);
        coverIsDue(2, NONE, NONE, NONE);
        bench.call("removePiece", 0);
        bench.call("setCopies", 0, 3);
        due(1, "covers");
        coverIsDue(0, 0, 1, 2);
    }

    private static void triesAreDue(String text, int rule, int tries) {
        fresh(text);
        bench.call("setRule", rule);
        expect(tries, bench.call("tries"), "tries() of " + text);
        // The mode changes what is a cover, but not the tries.
        bench.call("setMode", 1);
        expect(tries, bench.call("tries"), "tries() with the mode 1 of " + text);
    }

    private static void theEnd() {
        say(DESCRIPTION, "The search ends after 20000 tries: if one more placement that fits is met,"
                + " it is unfinished.");
        for (Scene scene : JUST_FINISHED) {
            set(scene);
            due(20000, "tries");
            due(scene.found, "covers");
        }
        for (Scene scene : JUST_UNFINISHED) {
            set(scene);
            unchanged(UNFINISHED, "tries");
            unchanged(UNFINISHED, "covers");
            // With the mode 1 there are as many tries, for covers or for none.
            bench.call("setMode", 1);
            due(UNFINISHED, "tries");
            due(UNFINISHED, "covers");
            // The next search begins anew.
            bench.call("setBoard", 1, 1);
            if (bench.call("tries") < 0) {
                fail("the search on a board of one cell is unfinished after " + scene.text);
            }
            bench.call("undo");
            due(UNFINISHED, "tries");
        }
        // One way less for one cell, and the search comes to its end.
        set(MANY_FOUND);
        bench.call("removePiece", 0);
        due(3 * 5 * 2 * 2 * 5 * 3 * 2 * 5, "covers");
        bench.call("undo");
        due(UNFINISHED, "covers");
        // Far too many tries.
        fresh("....../....../....../....../....../......|ox9|ox9|ox9|ox9|ox9|ox9|ox9|ox9");
        due(UNFINISHED, "covers");
        due(UNFINISHED, "tries");
    }

    private static void noOpenCells() {
        say(DESCRIPTION, "(A board without open cells has one cover, the empty one, with mode 0,"
                + " and with mode 1 if there are no pieces.)");
        String[] boards = {"#", "##/##", "######/######/######/######/######/######"};
        for (String board : boards) {
            coversAreDue(board, 1, 1);
            emptyCoverIsDue();
            coversAreDue(board + "|o", 1, 0);
            due(0, "tries");
            due(0, "classes");
            unchanged(NONE, "fewest");
            unchanged(NONE, "coverAt", 0, 0);
            unchanged(NONE, "used", 0, 0);
            unchanged(NONE, "alike", 0, 0);
            bench.call("setMode", 0);
            emptyCoverIsDue();
            due(0, "used", 0, 0);
            due(NONE, "used", 1, 0);
            bench.call("setMode", 1);
            bench.call("removePiece", 0);
            due(1, "covers");
            emptyCoverIsDue();
            bench.call("setRule", 1);
            emptyCoverIsDue();
        }
        // No pieces, but open cells.
        fresh("#.");
        due(0, "covers");
        due(0, "tries");
        due(0, "classes");
        due(NONE, "fewest");
        due(NONE, "coverAt", 0, 1);
        bench.call("setMode", 1);
        due(0, "covers");
        due(NONE, "fewest");
    }

    private static void emptyCoverIsDue() {
        due(1, "covers");
        due(0, "tries");
        due(1, "classes");
        due(0, "fewest");
        due(NONE, "coverAt", 0, 0);
        due(NONE, "coverAt", 1, 0);
        due(1, "alike", 0, 0);
        due(NONE, "alike", 0, 1);
        due(NONE, "alike", 1, 0);
    }

    private static void counting() {
        say(18, "Counts the covers.");
        coversAreDue("..|oo", 1, 1);
        coversAreDue("...|oo", 0, 0);
        coversAreDue(BITS, 256, 0);

        say(18, "Returns their number; UNFINISHED if the search is unfinished.");
        set(JUST_FINISHED[4]);
        due(16000, "covers");
        for (Scene scene : JUST_UNFINISHED) {
            set(scene);
            unchanged(UNFINISHED, "covers");
        }

        say(19, "Returns the number of tries of the search for all covers.");
        triesAreDue("....|oox2|ox9", 0, 11);
        triesAreDue(LONGEST_COVER, 0, 36);
        triesAreDue("....", 0, 0);

        say(19, "Returns the number; UNFINISHED if the search is unfinished.");
        for (Scene scene : JUST_FINISHED) {
            set(scene);
            due(20000, "tries");
        }
        for (Scene scene : JUST_UNFINISHED) {
            set(scene);
            unchanged(UNFINISHED, "tries");
        }
    }

    private static void coverAts() {
        say(20, "`cover`: number of a cover");
        fresh("..|o|o");
        coverIsDue(0, 0, 3);
        coverIsDue(1, 2, 1);
        unchanged(INVALID, "coverAt", -1, 0);
        unchanged(INVALID, "coverAt", MIN, 0);
        // The covers 99, 100, 101 and the last one, back and forth.
        fresh(BITS);
        for (int cover : new int[] {100, 99, 101, 100, 0, 255, 254, 100, 128}) {
            for (int cell = 0; cell < 8; cell++) {
                due(cell + 8 * (cover >> 7 - cell & 1), "coverAt", cover, cell);
            }
        }

        say(20, "`cell`: number of a cell");
        fresh("../..|ox4");
        coverIsDue(0, 0, 1, 2, 3);
        range(1, 0, 3, "coverAt", 0, 0);
        fresh(LONGEST_COVER);
        due(0, "coverAt", 0, 0);
        due(62, "coverAt", 0, 35);
        range(1, 0, 35, "coverAt", 0, 0);
        // The last cells of the greatest board, in many covers.
        fresh("######/######/######/######/##..../##....|ox8|ox8");
        for (int cover : new int[] {100, 101, 99, 100, 0, 1, 255}) {
            due(7 + 8 * (cover & 1), "coverAt", cover, 35);
            due(8 * (cover >> 7), "coverAt", cover, 26);
        }

        say(20, "Returns which placement contains a cell in a cover.");
        fresh("#../...|oootx2|oo");
        coverIsDue(0, NONE, 1, 1, 0, 0, 0);
        // As many placements as there can be, and the last one by its smallest cell is in a cover.
        fresh(MOST_PLACEMENTS);
        due(1280, "count", 7);
        int[] onLastCell = {1099, 1099, 1099, 1099, 399, 559, 719, 879, 1199, 1099, 1099, 1099,
            UNFINISHED};
        for (int cover = 0; cover < onLastCell.length; cover++) {
            due(onLastCell[cover], "coverAt", cover, 35);
        }

        say(20, "Returns the number of the placement; INVALID_ARGUMENT if cover is negative or there"
                + " is no such cell; UNFINISHED if the search is unfinished before this cover is"
                + " found (also for a hole);");
        set(NONE_FOUND);
        unchanged(UNFINISHED, "coverAt", 0, 0);
        unchanged(UNFINISHED, "coverAt", MAX, 15);
        unchanged(INVALID, "coverAt", 0, 16);
        unchanged(INVALID, "coverAt", -1, 0);
        foundTillTheEnd(FEW_FOUND, HOLE_OF_FEW_FOUND, 25);
        foundTillTheEnd(MANY_FOUND, HOLE_OF_MANY_FOUND, 12);

        say(20, "NONE if there are not so many covers, or the cell is a hole.");
        fresh("#.|o|o");
        unchanged(NONE, "coverAt", 0, 0);
        due(0, "coverAt", 0, 1);
        unchanged(NONE, "coverAt", 2, 1);
        unchanged(NONE, "coverAt", 2, 0);
        unchanged(NONE, "coverAt", MAX, 1);
        unchanged(INVALID, "coverAt", 2, 2);
        unchanged(INVALID, "coverAt", 2, -1);
        unchanged(INVALID, "coverAt", -1, 0);
        fresh(BITS);
        due(15, "coverAt", 255, 7);
        unchanged(NONE, "coverAt", 256, 7);
        set(JUST_FINISHED[4]);
        due(NONE, "coverAt", 16000, 0);
        due(NONE, "coverAt", 15999, 8);
    }

    /** The last cover that is found, and the first that is not, also at a hole. */
    private static void foundTillTheEnd(Scene scene, int hole, int cells) {
        set(scene);
        int placement = bench.call("coverAt", scene.found - 1, 0);
        if (placement < 0) {
            fail("coverAt() of the last cover that is found answered " + placement);
        }
        due(NONE, "coverAt", scene.found - 1, hole);
        due(NONE, "coverAt", 0, hole);
        unchanged(UNFINISHED, "coverAt", scene.found, 0);
        unchanged(UNFINISHED, "coverAt", scene.found, hole);
        unchanged(UNFINISHED, "coverAt", MAX, hole);
        unchanged(INVALID, "coverAt", -1, hole);
        unchanged(INVALID, "coverAt", scene.found, cells);
        unchanged(INVALID, "coverAt", scene.found, -1);
    }

    private static void uses() {
        say(21, "`cover`: number of a cover");
        fresh(BITS);
        for (int cover : new int[] {0, 99, 100, 99, 101, 255, 254, 99}) {
            due(Integer.bitCount(cover), "used", cover, 1);
        }
        unchanged(INVALID, "used", -1, 0);
        unchanged(INVALID, "used", MIN, 0);

        say(21, "`piece`: number of a piece");
        fresh("..|oo|o|o");
        range(1, 0, 2, "used", 0, 0);
        fresh("..");
        range(1, 0, -1, "used", 0, 0);

        say(21, "Returns how many placements of a piece a cover has.");
        fresh("....|oox2|ox4");
        int[][] numbers = {{2, 0}, {1, 2}, {1, 2}, {1, 2}, {0, 4}};
        for (int cover = 0; cover < numbers.length; cover++) {
            due(numbers[cover][0], "used", cover, 0);
            due(numbers[cover][1], "used", cover, 1);
        }
        fresh(LONGEST_COVER);
        for (int piece = 0; piece < 4; piece++) {
            due(9, "used", 0, piece);
        }

        say(21, "Returns the number; INVALID_ARGUMENT if cover is negative or there is no such"
                + " piece; UNFINISHED if the search is unfinished before this cover is found; NONE"
                + " if there are not so many covers.");
        fresh(".|o");
        due(1, "used", 0, 0);
        unchanged(NONE, "used", 1, 0);
        unchanged(NONE, "used", MAX, 0);
        unchanged(INVALID, "used", 1, 1);
        unchanged(INVALID, "used", -1, 0);
        set(NONE_FOUND);
        unchanged(UNFINISHED, "used", 0, 0);
        unchanged(INVALID, "used", 0, 3);
        unchanged(INVALID, "used", -1, 0);
        set(MANY_FOUND);
        due(4, "used", 15550, 5);
        unchanged(UNFINISHED, "used", 15551, 5);
        unchanged(UNFINISHED, "used", MAX, 0);
        unchanged(INVALID, "used", 15551, 6);
        set(FEW_FOUND);
        due(2, "used", 29, 0);
        unchanged(UNFINISHED, "used", 30, 0);
    }

    private static void alikes() {
        say(DESCRIPTION, "Two covers are alike if a symmetry maps the one to the other, that is, the"
                + " cells of each placement to the cells of a placement of the same piece.");
        // A turn maps lying dominoes to upright ones, if they are of one piece.
        String[] texts = {"../..|ootx2", "../..|oox2|o/ox2", "../.1|ootc1x2", "../11|ootc1x2",
            "..|oo|oo", "..|o|o", "1.|oc1|oc1", ".1|oc1|oc1", "...|oot|o", ".#./#.#/.#.|oo|ox4|ox4"};
        int[] alike = {1, 0, 1, 0, 0, 1, 0, 0, 1, 1};
        for (int i = 0; i < texts.length; i++) {
            fresh(texts[i]);
            expect(alike[i], bench.call("alike", 0, 1), "alike(0, 1) of " + texts[i]);
            expect(alike[i], bench.call("alike", 1, 0), "alike(1, 0) of " + texts[i]);
            due(1, "alike", 0, 0);
            due(1, "alike", 1, 1);
        }

        say(23, "`first`: number of a cover");
        fresh(".|o|o");
        due(0, "alike", 0, 1);
        due(1, "alike", 1, 1);
        unchanged(INVALID, "alike", -1, 0);
        unchanged(INVALID, "alike", MIN, 0);

        say(23, "`second`: number of a cover");
        fresh(".|o|o");
        due(0, "alike", 1, 0);
        unchanged(INVALID, "alike", 0, -1);
        unchanged(INVALID, "alike", 0, MIN);

        say(23, "Tells whether two covers are alike.");
        fresh(BITS);
        // 0110/0010 and 0110/0100 are mirror images, on both sides of the hundredth cover.
        due(1, "alike", 98, 100);
        due(1, "alike", 100, 98);
        due(0, "alike", 99, 100);
        due(0, "alike", 100, 101);
        due(1, "alike", 100, 100);
        due(1, "alike", 255, 255);
        due(0, "alike", 0, 255);
        // 1110/0000, 0111/0000, 0000/1110 and 0000/0111.
        due(1, "alike", 0xE0, 0x70);
        due(1, "alike", 0x70, 0x0E);
        due(1, "alike", 0xE0, 0x07);
        due(0, "alike", 0xE0, 0xD0);

        say(23, "Returns 1 if they are alike, otherwise 0; INVALID_ARGUMENT if an argument is"
                + " negative; UNFINISHED if the search is unfinished before both are found; NONE if"
                + " there are not so many covers.");
        fresh(".|o|o");
        unchanged(NONE, "alike", 2, 0);
        unchanged(NONE, "alike", 0, 2);
        unchanged(NONE, "alike", 2, 2);
        unchanged(NONE, "alike", MAX, MAX);
        unchanged(INVALID, "alike", 2, -1);
        unchanged(INVALID, "alike", -1, 2);
        set(NONE_FOUND);
        unchanged(UNFINISHED, "alike", 0, 0);
        unchanged(INVALID, "alike", 0, -1);
        set(MANY_FOUND);
        due(1, "alike", 15550, 15550);
        due(0, "alike", 0, 15550);
        unchanged(UNFINISHED, "alike", 0, 15551);
        unchanged(UNFINISHED, "alike", 15551, 0);
        unchanged(UNFINISHED, "alike", 15551, 15551);
        unchanged(UNFINISHED, "alike", MAX, MAX);
        unchanged(INVALID, "alike", 15551, -1);
        unchanged(INVALID, "alike", -1, 15551);
        set(FEW_FOUND);
        due(1, "alike", 29, 29);
        unchanged(UNFINISHED, "alike", 29, 30);
    }

    private static void classes() {
        say(22, "Counts the covers of which no two are alike: the classes of covers that are"
                + " alike.");
        String[] texts = {"....", "#", "..|oo", "..|o|o", "../..|ootx2", ".|o|o|o|o|o|o|o|o",
            ".../...|ox6|ox6"};
        int[] numbers = {0, 1, 1, 1, 1, 8, 24};
        for (int i = 0; i < texts.length; i++) {
            fresh(texts[i]);
            expect(numbers[i], bench.call("classes"), "classes() of " + texts[i]);
        }

        say(22, "Returns the number of classes; UNFINISHED if the search is unfinished;"
                + " CAPACITY_EXCEEDED if there are more than 100 covers.");
        // 81 covers of monominoes, 18 with one domino, 1 with two; then one more.
        fresh("../..|ox4|ox4|ox4|oox2");
        due(100, "covers");
        due(28, "classes");
        bench.call("addPiece", 51, 0, 0);
        due(101, "covers");
        unchanged(NO_ROOM, "classes");
        bench.call("undo");
        due(28, "classes");
        fresh(BITS);
        unchanged(NO_ROOM, "classes");
        set(JUST_FINISHED[4]);
        unchanged(NO_ROOM, "classes");
        // No cover, thirty, more than a hundred are found till the search ends.
        for (Scene scene : JUST_UNFINISHED) {
            set(scene);
            unchanged(UNFINISHED, "classes");
        }
    }

    private static void fewests() {
        say(24, "Finds the least number of placements in a cover.");
        String[] texts = {"#", "#|o", ".|o", "..|ox2", "..|ox2|oo", "..|oo|ox2", "....|ox4|oo|oooo",
            "....|oooo|oo|ox4", "....|ox4|oo|ooo", LONGEST_COVER,
            // The one in the middle has the fewest; a try that leads nowhere goes ahead.
            "...|ox2|ooo|oo", "...|oo|ooo"};
        int[] numbers = {0, 0, 1, 2, 1, 1, 1,
            1, 2, 36,
            1, 1};
        for (int i = 0; i < texts.length; i++) {
            fresh(texts[i]);
            expect(numbers[i], bench.call("fewest"), "fewest() of " + texts[i]);
        }
        // With the mode 1 all covers have as many placements as there are copies.
        fresh("....|ox2|oo|oooo");
        due(1, "fewest");
        bench.call("setMode", 1);
        due(NONE, "fewest");
        bench.call("removePiece", 2);
        due(3, "fewest");

        say(24, "Returns the number; UNFINISHED if the search is unfinished; NONE if there is no"
                + " cover.");
        fresh(".|oo");
        unchanged(NONE, "fewest");
        set(JUST_FINISHED[0]);
        due(5, "fewest");
        set(JUST_FINISHED[1]);
        unchanged(NONE, "fewest");
        for (Scene scene : JUST_UNFINISHED) {
            set(scene);
            unchanged(UNFINISHED, "fewest");
        }
    }

    public static void main(String[] args) {
        modes();
        rules();
        whatACoverIs();
        theSearch();
        theEnd();
        noOpenCells();
        counting();
        coverAts();
        uses();
        alikes();
        classes();
        fewests();
        finish();
    }
}
