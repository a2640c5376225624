/** The boundary cases of the placements that are of no use and of the proofs by weights. */
public final class ProofBoundaryTest extends Boundaries {
    private static void usefulIsDue(String text, int... numbers) {
        fresh(text);
        for (int piece = 0; piece < numbers.length; piece++) {
            expect(numbers[piece], bench.call("useful", piece),
                    "useful(" + piece + ") of " + text);
        }
    }

    private static void striking() {
        say(DESCRIPTION, "Placements are struck out, again and again, as long as one can be: a"
                + " placement is struck out if there is an open cell that it does not contain such"
                + " that no placement that is not struck out contains this cell and has no cell in"
                + " common with it. What is left at the end are the useful placements.");
        // It contains all open cells, so that there is no cell to strike it out for.
        usefulIsDue(".|o", 1);
        usefulIsDue("..|oo", 1);
        usefulIsDue("#.#.#|o", 2);
        usefulIsDue("../..|oo/oo", 1);
        usefulIsDue("#|o", 0);
        usefulIsDue(".|oo", 0);
        // A cell that is in no placement strikes out all of them.
        usefulIsDue("..#.|oo", 0);
        usefulIsDue("..1|oo", 0);
        usefulIsDue("..1|oo|oc1", 1, 3);
        // The first one struck out takes others along, up to all of them.
        usefulIsDue("...|oo", 0);
        usefulIsDue("....|oo", 2);
        usefulIsDue(".....|oo", 0);
        usefulIsDue("......|oo", 3);
        usefulIsDue(".../...|oo", 0);
        usefulIsDue("../../..|oo", 3);
        usefulIsDue("...|oo|o", 2, 3);
        usefulIsDue("....|ooo|o", 2, 4);
        usefulIsDue("....|ooo|oo", 0, 2);
        // The longer the chain, the more rounds: one is struck out for those struck out before.
        usefulIsDue(".../..#|ooo|oom", 1, 1);
        usefulIsDue("##./.../...|ooo|oot", 1, 2);
        usefulIsDue("...#./...../.....|oot|oo/o.", 4, 2);
        usefulIsDue("...../..#../.#.../...../..#.#/.....|o/om", 15);

        say(DESCRIPTION, "(Copies and the rule play no part.)");
        fresh("....|ooc1");
        due(2, "useful", 0);
        bench.call("setRule", 1);
        due(2, "useful", 0);
        due(1, "usefulAt", 3);
        bench.call("setCopies", 0, 9);
        due(2, "useful", 0);
        bench.call("setMode", 1);
        due(2, "useful", 0);
        due(0, "covers");
    }

    private static void useful() {
        say(25, "Counts the useful placements of a piece.");
        usefulIsDue("....|oo|o|oooo|oo/oo", 3, 4, 1, 0);
        usefulIsDue(".|o" + "|o".repeat(7), 1, 1, 1, 1, 1, 1, 1, 1);
        bench.call("setBoard", 6, 6);
        due(36, "useful", 0);
        due(36, "useful", 7);

        say(25, "`piece`: number of a piece");
        range(0, 0, -1, "useful", 0);
        fresh("..|o|oo");
        due(2, "useful", 0);
        due(1, "useful", 1);
        range(0, 0, 1, "useful", 0);

        say(25, "Returns their number; INVALID_ARGUMENT if there is no such piece.");
        fresh(".|oo");
        due(0, "useful", 0);
        unchanged(INVALID, "useful", 1);
        bench.call("removePiece", 0);
        unchanged(INVALID, "useful", 0);
    }

    private static void usefulAt() {
        say(26, "Counts the useful placements that contain a cell.");
        fresh("....|oo");
        dueAll("usefulAt", 1, 1, 1, 1, INVALID);
        fresh("...|oo|o");
        dueAll("usefulAt", 2, 3, 2, INVALID);
        fresh(".....|oo");
        dueAll("usefulAt", 0, 0, 0, 0, 0, INVALID);

        say(26, "`cell`: number of a cell");
        bench.call("addPiece", 1, 0, 0);
        due(1, "usefulAt", 0);
        due(1, "usefulAt", 15);
        range(0, 0, 15, "usefulAt", 0);
        bench.call("setBoard", 6, 6);
        due(1, "usefulAt", 35);
        range(0, 0, 35, "usefulAt", 0);
        bench.call("setBoard", 1, 1);
        range(0, 0, 0, "usefulAt", 0);

        say(26, "Returns their number; INVALID_ARGUMENT if there is no such cell; NONE if it is a"
                + " hole.");
        due(0, "usefulAt", 0);
        bench.call("setHole", 0, 1);
        unchanged(NONE, "usefulAt", 0);
        unchanged(INVALID, "usefulAt", 16);
        bench.call("setBoard", 1, 1);
        due(0, "usefulAt", 0);
        bench.call("setHole", 0, 1);
        unchanged(NONE, "usefulAt", 0);
        unchanged(INVALID, "usefulAt", 1);
        unchanged(INVALID, "usefulAt", -1);
    }

    private static void weights() {
        say(DESCRIPTION, "For numbers m from 2 to 5, and a and b from 0 to m - 1, the weight of the"
                + " cell (x, y) is (a * x + b * y) modulo m.");
        // Without pieces the only sum is 0; one open cell alone is the weight of the board.
        for (int cell = 0; cell < 36; cell++) {
            String cells = "#".repeat(cell) + "." + "#".repeat(35 - cell);
            fresh(cells.replaceAll("(.{6})(?!$)", "$1/"));
            for (int m = 2; m <= 5; m++) {
                for (int a = 0; a < m; a++) {
                    for (int b = 0; b < m; b++) {
                        due((a * (cell % 6) + b * (cell / 6)) % m == 0 ? 0 : 1, "proves", a, b, m);
                    }
                }
            }
        }

        say(DESCRIPTION, "The weight of the board is the sum of the weights of all open cells, that"
                + " of a placement the sum of the weights of its cells, both modulo m.");
        // The board weighs 0 + 1 + 2 + 3 + 4 + 5 = 15, the domino at the end 9.
        fresh("......");
        proofsAreDue("1 0 1 0");
        fresh("1111..|oo");
        proofsAreDue("0 0 1 0");
        fresh("1111..|ooc1");
        proofsAreDue("0 0 0 0");
        fresh("######");
        proofsAreDue("0 0 0 0");
    }

    /** What the weights with a = 1 and b = 0 prove for m = 2, 3, 4 and 5. */
    private static void proofsAreDue(String answers) {
        for (int m = 2; m <= 5; m++) {
            due(answers.charAt(2 * m - 4) - '0', "proves", 1, 0, m);
        }
    }

    private static void sums() {
        say(DESCRIPTION, "The weights prove that there is no cover if the weight of the board is not"
                + " the sum, modulo m, of weights of placements such that each piece has as many of"
                + " these placements (the same one possibly several times) as it has copies (with"
                + " mode 0: at most as many), all chosen without regard to whether they fit"
                + " together.");
        // The board weighs 4, the only placement 1.
        for (int copies = 1; copies <= 9; copies++) {
            fresh("#.#2|ox" + copies);
            for (int m = 2; m <= 5; m++) {
                due(copies >= 4 % m ? 0 : 1, "proves", 1, 0, m);
            }
            bench.call("setMode", 1);
            for (int m = 2; m <= 5; m++) {
                due(copies % m == 4 % m ? 0 : 1, "proves", 1, 0, m);
            }
        }
        // Two pieces with a copy each add up as two copies of one do.
        fresh("#.#2|o|o|o");
        due(1, "proves", 1, 0, 5);
        bench.call("addPiece", 1, 0, 0);
        due(0, "proves", 1, 0, 5);
        bench.call("setMode", 1);
        due(0, "proves", 1, 0, 5);
        bench.call("addPiece", 1, 0, 0);
        due(1, "proves", 1, 0, 5);

        say(DESCRIPTION, "If a piece has no placements, it has, with mode 1, none of the sums, so"
                + " that the weights prove it then.");
        fresh("..|ox2|ooo");
        provesAlways(0);
        bench.call("setMode", 1);
        provesAlways(1);
        due(200, "proof");
        bench.call("removePiece", 1);
        provesAlways(0);
        // Nor has any piece placements on a board without open cells.
        fresh("#");
        bench.call("setMode", 1);
        provesAlways(0);
        due(NONE, "proof");
        bench.call("addPiece", 1, 0, 0);
        provesAlways(1);
        due(200, "proof");
        bench.call("setMode", 0);
        provesAlways(0);
        due(NONE, "proof");
    }

    private static void provesAlways(int answer) {
        for (int m = 2; m <= 5; m++) {
            due(answer, "proves", 0, 0, m);
            due(answer, "proves", 1, 0, m);
            due(answer, "proves", m - 1, m - 1, m);
        }
    }

    private static void arguments() {
        say(27, "Tells whether weights prove that there is no cover.");
        fresh("#.../..../..../...#|ootx7");
        due(0, "proves", 1, 1, 2);
        bench.call("setMode", 1);
        due(1, "proves", 1, 1, 2);
        due(0, "proves", 0, 1, 2);

        say(27, "`a`: 0 to m - 1");
        // The board weighs 24 * a + 24 * b.
        for (int m = 2; m <= 5; m++) {
            due(0, "proves", 0, 0, m);
            due(m == 5 ? 1 : 0, "proves", m - 1, 0, m);
            range(0, 0, m - 1, "proves", 0, 0, m);
            range(0, 0, m - 1, "proves", 0, m - 1, m);
        }

        say(27, "`b`: 0 to m - 1");
        for (int m = 2; m <= 5; m++) {
            due(0, "proves", 0, 0, m);
            due(m == 5 ? 1 : 0, "proves", 0, m - 1, m);
            range(1, 0, m - 1, "proves", 0, 0, m);
            range(1, 0, m - 1, "proves", m - 1, 0, m);
        }

        say(27, "`m`: 2 to 5");
        due(0, "proves", 1, 1, 2);
        due(1, "proves", 4, 0, 5);
        range(2, 2, 5, "proves", 0, 0, 2);
        range(2, 2, 5, "proves", 1, 1, 5);
        unchanged(INVALID, "proves", 0, 0, 0);
        unchanged(INVALID, "proves", 5, 5, 6);

        say(27, "Returns 1 if they do, otherwise 0; INVALID_ARGUMENT if an argument is out of"
                + " range.");
        fresh("#.");
        due(1, "proves", 1, 0, 5);
        due(0, "proves", 0, 1, 5);
        unchanged(INVALID, "proves", 5, 0, 5);
        unchanged(INVALID, "proves", 0, 5, 5);
        unchanged(INVALID, "proves", 5, 5, 5);
        unchanged(INVALID, "proves", -1, -1, 1);
        unchanged(INVALID, "proves", MIN, MAX, MIN);
    }

    private static void proofs() {
        say(28, "Finds weights that prove that there is no cover.");
        fresh("..");
        due(210, "proof");
        due(1, "proves", 1, 0, 2);

        say(28, "Returns 100 * m + 10 * a + b for the smallest m, of several the smallest a, of"
                + " several the smallest b; NONE if there are none.");
        // All answers that there can be, from the first to the last, but for 200.
        String[] texts = {"#/.", "..", ".2/#.|o", "../..", ".#.", "../.#|o", "#.#/##.|o", "./././.",
            "3...", "#.3/##.|o", ".../##.|o", "#../#.#|o", "#.2/#..|oox9", "#/./#/.|o", "...#..",
            "../..|oom", "..../#.##|o", "../3.|oomx2", ".../#..|oom"};
        int[] answers = {201, 210, 211, 301, 310, 311, 312, 401,
            410, 411, 412, 413, 421, 501, 510,
            511, 512, 513, 514};
        for (int i = 0; i < texts.length; i++) {
            fresh(texts[i]);
            expect(answers[i], bench.call("proof"), "proof() of " + texts[i]);
            firstOfAll(answers[i]);
        }
        for (String text : new String[] {"#", ".", "#|o", "..|oo", "..|oox9", "...|oox9"}) {
            fresh(text);
            expect(NONE, bench.call("proof"), "proof() of " + text);
            firstOfAll(599);
        }
        unchanged(NONE, "proof");
    }

    /** No weights ahead of these prove anything. */
    private static void firstOfAll(int first) {
        for (int m = 2; m <= 5; m++) {
            for (int a = 0; a < m; a++) {
                for (int b = 0; b < m; b++) {
                    int number = 100 * m + 10 * a + b;
                    if (number <= first) {
                        due(number == first ? 1 : 0, "proves", a, b, m);
                    }
                }
            }
        }
    }

    public static void main(String[] args) {
        striking();
        useful();
        usefulAt();
        weights();
        sums();
        arguments();
        proofs();
        finish();
    }
}
