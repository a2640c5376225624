import java.util.ArrayList;
import java.util.List;

/**
 * The rule for all pairs of placements on a board of 4 by 4 cells: just their cells are open, and
 * their pieces can't be turned. If the two touch, the open cells hang together, so whatever cover
 * there is breaks the rule; if they don't, the cover is the two themselves.
 */
public final class TouchingPairsTest {
    private static final int WIDTH = 4;
    private static final int CELLS = 16;
    private static final int MOST_SQUARES = 5;

    private static int wrong = 0;
    private static int pairs = 0;

    private static boolean touch(int one, int two) {
        int columns = Math.abs(one % WIDTH - two % WIDTH);
        int rows = Math.abs(one / WIDTH - two / WIDTH);
        return columns + rows == 1;
    }

    private static boolean has(int set, int cell) {
        return (set & 1 << cell) != 0;
    }

    private static boolean setsTouch(int first, int second) {
        for (int one = 0; one < CELLS; one++) {
            for (int two = 0; two < CELLS; two++) {
                if (has(first, one) && has(second, two) && touch(one, two)) {
                    return true;
                }
            }
        }
        return false;
    }

    private static boolean hangsTogether(int set) {
        // A set falls apart if it has a part that touches no cell of the rest.
        for (int part = set - 1 & set; part > 0; part = part - 1 & set) {
            if (!setsTouch(part, set & ~part)) {
                return false;
            }
        }
        return true;
    }

    private static List<Integer> placements() {
        List<Integer> sets = new ArrayList<>();
        for (int set = 1; set < 1 << CELLS; set++) {
            if (Integer.bitCount(set) <= MOST_SQUARES && hangsTogether(set)) {
                sets.add(set);
            }
        }
        return sets;
    }

    private static void expect(int want, int got, int first, int second, String what) {
        if (got != want) {
            wrong++;
            System.out.println("cells " + Integer.toBinaryString(first) + " and "
                    + Integer.toBinaryString(second) + ": " + what + " answered " + got
                    + ", due is " + want);
        }
    }

    private static void lookAt(int first, int second) {
        PolyominoCover bench = new PolyominoCover();
        bench.setBoard(WIDTH, CELLS / WIDTH);
        for (int cell = 0; cell < CELLS; cell++) {
            if (!has(first | second, cell)) {
                bench.setHole(cell, 1);
            }
        }
        // The board is as wide as the grid of a shape, so that the bits are the same.
        bench.addPiece(first, 0, 1);
        bench.addPiece(second, 0, 1);
        int free = bench.covers();
        bench.setRule(1);
        boolean equal = bench.piece(0, 0) == bench.piece(1, 0);
        int want = setsTouch(first, second) ? 0 : equal ? 2 : 1;
        expect(want, bench.covers(), first, second, "covers() with the rule");
        expect(want, Math.min(free, want), first, second, "covers() without the rule");
        bench.removePiece(1);
        bench.addPiece(second, 0, 2);
        expect(free, bench.covers(), first, second, "covers() of two colours");
        pairs++;
    }

    public static void main(String[] args) {
        List<Integer> sets = placements();
        for (int first : sets) {
            for (int second : sets) {
                if (first < second && (first & second) == 0) {
                    lookAt(first, second);
                }
            }
        }
        System.out.println(wrong == 0 ? "all " + pairs + " pairs are as due"
                : wrong + " answers are not as due");
        if (wrong != 0) {
            System.exit(1);
        }
    }
}
