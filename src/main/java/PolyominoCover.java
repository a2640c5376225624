/**
 * A workbench for covering boards with polyominoes.
 *
 * <p>The board, the pieces, the mode and the rule are the problem; all else (forms, placements,
 * symmetries, covers, useful placements) follows from it and is worked out anew, in rows that are
 * made once, when it is asked for after a change.
 */
public final class PolyominoCover {
    public static final int INVALID_ARGUMENT = -1;
    public static final int ILLEGAL_STATE = -2;
    public static final int CAPACITY_EXCEEDED = -3;
    public static final int UNFINISHED = -4;
    public static final int NONE = -9;

    private static final int MOST_SIDE = 6;
    private static final int MOST_CELLS = MOST_SIDE * MOST_SIDE;
    private static final int FIRST_SIDE = 4;
    private static final int HOLE = -1;
    private static final int MOST_COLOUR = 3;
    private static final int COLOURS = MOST_COLOUR + 1;

    private static final int MOST_PIECES = 8;
    private static final int MOST_COPIES = 9;
    private static final int TURNED = 1;
    private static final int MIRRORED = 2;
    private static final int MOST_FORMS = 8;
    private static final int QUARTERS = 4;
    private static final int MOST_SQUARES = 5;

    private static final int GRID_SIDE = 4;
    private static final int GRID_SQUARES = GRID_SIDE * GRID_SIDE;
    private static final int GRID = 0xFFFF;
    private static final int LEFT_COLUMN = 0x1111;
    private static final int RIGHT_COLUMN = 0x8888;
    private static final int TOP_ROW = 0x000F;

    /** 8 pieces with 8 forms: a form that is one of 8 lies on a 6 by 6 board in at most 20 ways. */
    private static final int MOST_PLACEMENTS = MOST_PIECES * MOST_FORMS * 20;

    private static final int SYMMETRIES = 8;
    private static final int UPRIGHT_SYMMETRIES = 4;

    private static final int MOST_TRIES = 20000;
    /** Each try is put, looked at and taken back once; the empty board is looked at and left. */
    private static final int MOST_TURNS = 3 * MOST_TRIES + 10;
    private static final int NO_PLACEMENT = -1;
    private static final int KEPT_COVERS = 100;
    private static final int SPARE_ROWS = 2;

    private static final int LEAST_MODULUS = 2;
    private static final int MOST_MODULUS = 5;

    private static final int MOST_SAVED = 6;
    private static final int MOST_CHARACTERS = 160;
    private static final int MOST_CHARACTER = 255;
    private static final int MOST_OPTIONS = 3;
    private static final int TEXT_END = -1;
    private static final int NO_ERROR = -1;
    private static final int ERROR_BASE = -10;

    private final Problem problem = new Problem();
    private final History history = new History();
    private final Reader reader = new Reader();
    private final Forms forms = new Forms();
    private final Placements placements = new Placements();
    private final Symmetries symmetries = new Symmetries();
    private final Walk walk = new Walk(problem, placements);
    private final Covers found = new Covers(walk, placements, symmetries);
    private final Sieve sieve = new Sieve();
    private final Weights weights = new Weights();

    private boolean placed = false;
    private boolean searched = false;
    private boolean sifted = false;

    public PolyominoCover() {
    }

    // ---- board and pieces

    public int setBoard(int width, int height) {
        if (!isWithin(width, 1, MOST_SIDE) || !isWithin(height, 1, MOST_SIDE)) {
            return INVALID_ARGUMENT;
        }
        prepareChange();
        problem.makeBoard(width, height);
        return problem.cellCount();
    }

    public int setHole(int cell, int on) {
        if (!problem.hasCell(cell) || !isWithin(on, 0, 1)) {
            return INVALID_ARGUMENT;
        }
        if (problem.isHole(cell) == (on == 1)) {
            return ILLEGAL_STATE;
        }
        prepareChange();
        problem.putCell(cell, on == 1 ? HOLE : 0);
        return problem.openCount();
    }

    public int setColour(int cell, int colour) {
        if (!problem.hasCell(cell) || !isWithin(colour, 0, MOST_COLOUR)) {
            return INVALID_ARGUMENT;
        }
        if (problem.isHole(cell)) {
            return ILLEGAL_STATE;
        }
        int before = problem.cellAt(cell);
        prepareChange();
        problem.putCell(cell, colour);
        return before;
    }

    public int addPiece(int shape, int freedom, int colour) {
        if (!Shapes.isShape(shape) || !isWithin(freedom, 0, MIRRORED)
                || !isWithin(colour, 0, MOST_COLOUR)) {
            return INVALID_ARGUMENT;
        }
        if (problem.pieceCount >= MOST_PIECES) {
            return CAPACITY_EXCEEDED;
        }
        prepareChange();
        problem.append(Shapes.normalize(shape), freedom, colour, 1);
        return problem.pieceCount - 1;
    }

    public int removePiece(int piece) {
        if (!problem.hasPiece(piece)) {
            return INVALID_ARGUMENT;
        }
        prepareChange();
        problem.dropPiece(piece);
        return problem.pieceCount;
    }

    public int setCopies(int piece, int copies) {
        if (!problem.hasPiece(piece) || !isWithin(copies, 1, MOST_COPIES)) {
            return INVALID_ARGUMENT;
        }
        int before = problem.copiesOf(piece);
        prepareChange();
        put(problem.copies, piece, copies);
        return before;
    }

    public int setMode(int mode) {
        if (!isWithin(mode, 0, 1)) {
            return INVALID_ARGUMENT;
        }
        int before = problem.mode;
        prepareChange();
        problem.mode = mode;
        return before;
    }

    public int setRule(int rule) {
        if (!isWithin(rule, 0, 1)) {
            return INVALID_ARGUMENT;
        }
        int before = problem.rule;
        prepareChange();
        problem.rule = rule;
        return before;
    }

    public int count(int what) {
        switch (what) {
            case 0:
                return problem.width;
            case 1:
                return problem.height;
            case 2:
                return problem.openCount();
            case 3:
                return problem.pieceCount;
            case 4:
                return problem.mode;
            case 5:
                return problem.rule;
            case 6:
                return problem.squareCount();
            case 7:
                placeAll();
                return placements.size;
            case 8:
                placeAll();
                return symmetries.size;
            case 9:
                return history.size;
            default:
                return INVALID_ARGUMENT;
        }
    }

    public int colour(int cell) {
        if (!problem.hasCell(cell)) {
            return INVALID_ARGUMENT;
        }
        return problem.isHole(cell) ? NONE : problem.cellAt(cell);
    }

    public int piece(int piece, int what) {
        if (!problem.hasPiece(piece)) {
            return INVALID_ARGUMENT;
        }
        switch (what) {
            case 0:
                return problem.shapeOf(piece);
            case 1:
                return problem.freedomOf(piece);
            case 2:
                return problem.colourOf(piece);
            case 3:
                return problem.copiesOf(piece);
            case 4:
                return Integer.bitCount(problem.shapeOf(piece));
            case 5:
                placeAll();
                return forms.sizeOf(piece);
            case 6:
                placeAll();
                return placements.sizeOf(piece);
            default:
                return INVALID_ARGUMENT;
        }
    }

    public int form(int piece, int form) {
        if (!problem.hasPiece(piece) || form < 0) {
            return INVALID_ARGUMENT;
        }
        placeAll();
        return form < forms.sizeOf(piece) ? forms.shapeOf(piece, form) : NONE;
    }

    public int placement(int placement, int part) {
        if (placement < 0 || !isWithin(part, 0, 4)) {
            return INVALID_ARGUMENT;
        }
        placeAll();
        if (placement >= placements.size) {
            return NONE;
        }
        switch (part) {
            case 0:
                return placements.pieceOf(placement);
            case 1:
                return placements.formOf(placement);
            case 2:
                return placements.cornerOf(placement);
            case 3:
                return smallestCell(placements.maskOf(placement));
            default:
                return greatestCell(placements.maskOf(placement));
        }
    }

    // ---- text

    public int appendCharacter(int character) {
        if (!isWithin(character, 0, MOST_CHARACTER)) {
            return INVALID_ARGUMENT;
        }
        if (reader.length >= MOST_CHARACTERS) {
            return CAPACITY_EXCEEDED;
        }
        reader.append(character);
        return reader.length;
    }

    public int clearText() {
        int before = reader.length;
        reader.length = 0;
        return before;
    }

    public int load() {
        int error = reader.read();
        if (error != NO_ERROR) {
            return ERROR_BASE - error;
        }
        prepareChange();
        reader.handOver(problem);
        reader.length = 0;
        return problem.pieceCount;
    }

    // ---- covers

    public int covers() {
        searchAll();
        return found.finished ? found.size : UNFINISHED;
    }

    public int tries() {
        searchAll();
        return found.finished ? found.tryCount : UNFINISHED;
    }

    public int coverAt(int cover, int cell) {
        if (cover < 0 || !problem.hasCell(cell)) {
            return INVALID_ARGUMENT;
        }
        searchAll();
        if (cover >= found.size) {
            return whyNoCover();
        }
        if (problem.isHole(cell)) {
            return NONE;
        }
        return found.placementAt(found.rowOf(cover, 0), cell);
    }

    public int used(int cover, int piece) {
        if (cover < 0 || !problem.hasPiece(piece)) {
            return INVALID_ARGUMENT;
        }
        searchAll();
        if (cover >= found.size) {
            return whyNoCover();
        }
        return found.usesOf(piece, found.rowOf(cover, 0));
    }

    public int classes() {
        searchAll();
        if (!found.finished) {
            return UNFINISHED;
        }
        return found.size > KEPT_COVERS ? CAPACITY_EXCEEDED : found.classCount();
    }

    public int alike(int first, int second) {
        if (first < 0 || second < 0) {
            return INVALID_ARGUMENT;
        }
        searchAll();
        if (first >= found.size || second >= found.size) {
            return whyNoCover();
        }
        return found.areAlike(found.rowOf(first, 0), found.rowOf(second, 1)) ? 1 : 0;
    }

    public int fewest() {
        searchAll();
        if (!found.finished) {
            return UNFINISHED;
        }
        return found.size == 0 ? NONE : found.least;
    }

    // ---- placements of no use, proofs

    public int useful(int piece) {
        if (!problem.hasPiece(piece)) {
            return INVALID_ARGUMENT;
        }
        siftAll();
        return sieve.leftOfPiece(placements, piece);
    }

    public int usefulAt(int cell) {
        if (!problem.hasCell(cell)) {
            return INVALID_ARGUMENT;
        }
        if (problem.isHole(cell)) {
            return NONE;
        }
        siftAll();
        return sieve.leftAtCell(placements, cell);
    }

    public int proves(int a, int b, int m) {
        if (!isWithin(m, LEAST_MODULUS, MOST_MODULUS) || !isWithin(a, 0, m - 1)
                || !isWithin(b, 0, m - 1)) {
            return INVALID_ARGUMENT;
        }
        placeAll();
        return weights.excludeCover(problem, placements, a, b, m) ? 1 : 0;
    }

    public int proof() {
        placeAll();
        for (int m = LEAST_MODULUS; m <= MOST_MODULUS; m++) {
            for (int a = 0; a < m; a++) {
                for (int b = 0; b < m; b++) {
                    if (weights.excludeCover(problem, placements, a, b, m)) {
                        return 100 * m + 10 * a + b;
                    }
                }
            }
        }
        return NONE;
    }

    public int undo() {
        if (history.size == 0) {
            return ILLEGAL_STATE;
        }
        forgetDerived();
        history.restore(problem);
        return history.size;
    }

    // ---- what the public methods have in common

    private void prepareChange() {
        history.save(problem);
        forgetDerived();
    }

    private void forgetDerived() {
        placed = false;
        searched = false;
        sifted = false;
    }

    private void placeAll() {
        if (!placed) {
            forms.fill(problem);
            placements.fill(problem, forms);
            symmetries.fill(problem);
            placed = true;
        }
    }

    private void searchAll() {
        if (!searched) {
            placeAll();
            found.collect();
            searched = true;
        }
    }

    private void siftAll() {
        if (!sifted) {
            placeAll();
            sieve.sift(placements);
            sifted = true;
        }
    }

    private int whyNoCover() {
        return found.finished ? NONE : UNFINISHED;
    }

    private static boolean isWithin(int value, int least, int most) {
        return value >= least && value <= most;
    }

    private static int at(int[] row, int index) {
        return index >= 0 && index < row.length ? row[index] : 0;
    }

    private static void put(int[] row, int index, int value) {
        if (index >= 0 && index < row.length) {
            row[index] = value;
        }
    }

    private static int smallestCell(long mask) {
        return Long.bitCount((mask & -mask) - 1);
    }

    private static int greatestCell(long mask) {
        int cell = MOST_CELLS - 1;
        while (cell > 0 && !holds(mask, cell)) {
            cell--;
        }
        return cell;
    }

    private static boolean holds(long mask, int cell) {
        return (mask >>> cell & 1L) != 0;
    }

    /** What undo() brings back: the board, the pieces, the mode and the rule. */
    private static final class Problem {
        private int width = FIRST_SIDE;
        private int height = FIRST_SIDE;
        private int mode = 0;
        private int rule = 0;
        private int pieceCount = 0;
        private final int[] cells = new int[MOST_CELLS];
        private final int[] shapes = new int[MOST_PIECES];
        private final int[] freedoms = new int[MOST_PIECES];
        private final int[] colours = new int[MOST_PIECES];
        private final int[] copies = new int[MOST_PIECES];

        void copyFrom(Problem other) {
            width = other.width;
            height = other.height;
            mode = other.mode;
            rule = other.rule;
            pieceCount = other.pieceCount;
            for (int cell = 0; cell < MOST_CELLS; cell++) {
                cells[cell] = other.cells[cell];
            }
            for (int piece = 0; piece < MOST_PIECES; piece++) {
                copyPiece(piece, other, piece);
            }
        }

        private void copyPiece(int piece, Problem other, int source) {
            put(shapes, piece, other.shapeOf(source));
            put(freedoms, piece, other.freedomOf(source));
            put(colours, piece, other.colourOf(source));
            put(copies, piece, other.copiesOf(source));
        }

        void makeBoard(int newWidth, int newHeight) {
            width = newWidth;
            height = newHeight;
            for (int cell = 0; cell < MOST_CELLS; cell++) {
                cells[cell] = 0;
            }
        }

        int cellCount() {
            return width * height;
        }

        boolean hasCell(int cell) {
            return cell >= 0 && cell < cellCount();
        }

        int cellAt(int cell) {
            return at(cells, cell);
        }

        void putCell(int cell, int content) {
            put(cells, cell, content);
        }

        boolean isHole(int cell) {
            return cellAt(cell) == HOLE;
        }

        int columnOf(int cell) {
            return width > 0 ? cell % width : 0;
        }

        int rowOf(int cell) {
            return width > 0 ? cell / width : 0;
        }

        int openCount() {
            return Long.bitCount(openMask());
        }

        long openMask() {
            long mask = 0;
            for (int cell = 0; cell < cellCount(); cell++) {
                if (!isHole(cell)) {
                    mask |= 1L << cell;
                }
            }
            return mask;
        }

        boolean takesColour(int cell, int colour) {
            int content = at(cells, cell);
            return content == 0 || content == colour;
        }

        boolean hasPiece(int piece) {
            return piece >= 0 && piece < pieceCount;
        }

        int shapeOf(int piece) {
            return at(shapes, piece);
        }

        int freedomOf(int piece) {
            return at(freedoms, piece);
        }

        int colourOf(int piece) {
            return at(colours, piece);
        }

        int copiesOf(int piece) {
            return at(copies, piece);
        }

        void append(int shape, int freedom, int colour, int number) {
            if (pieceCount < MOST_PIECES) {
                put(shapes, pieceCount, shape);
                put(freedoms, pieceCount, freedom);
                put(colours, pieceCount, colour);
                put(copies, pieceCount, number);
                pieceCount++;
            }
        }

        void dropPiece(int piece) {
            for (int later = piece + 1; later < pieceCount; later++) {
                copyPiece(later - 1, this, later);
            }
            pieceCount--;
        }

        int copyCount() {
            int sum = 0;
            for (int piece = 0; piece < pieceCount; piece++) {
                sum += copiesOf(piece);
            }
            return sum;
        }

        int squareCount() {
            int sum = 0;
            for (int piece = 0; piece < pieceCount; piece++) {
                sum += copiesOf(piece) * Integer.bitCount(shapeOf(piece));
            }
            return sum;
        }
    }

    /** The states for undo(), in a ring, so that the oldest gives way without a move of the others. */
    private static final class History {
        private final Problem[] ring = new Problem[MOST_SAVED];
        private int oldest = 0;
        private int size = 0;

        History() {
            for (int slot = 0; slot < ring.length; slot++) {
                ring[slot] = new Problem();
            }
        }

        void save(Problem problem) {
            Problem slot = slotAfterOldest(size);
            if (slot == null) {
                return;
            }
            slot.copyFrom(problem);
            if (size < MOST_SAVED) {
                size++;
            } else {
                oldest = (oldest + 1) % MOST_SAVED;
            }
        }

        void restore(Problem problem) {
            Problem slot = size > 0 ? slotAfterOldest(size - 1) : null;
            if (slot == null) {
                return;
            }
            problem.copyFrom(slot);
            size--;
        }

        private Problem slotAfterOldest(int steps) {
            int slot = (oldest + steps) % MOST_SAVED;
            return slot >= 0 && slot < ring.length ? ring[slot] : null;
        }
    }

    /** What can be done with a shape, that is, with bits on the grid of 4 by 4 squares. */
    private static final class Shapes {
        static boolean isShape(int shape) {
            if ((shape & ~GRID) != 0) {
                return false;
            }
            int squares = Integer.bitCount(shape);
            return squares >= 1 && squares <= MOST_SQUARES && hangsTogether(shape);
        }

        private static boolean hangsTogether(int shape) {
            int reached = shape & -shape;
            for (int step = 1; step < MOST_SQUARES; step++) {
                int right = (reached & ~RIGHT_COLUMN) << 1;
                int left = (reached & ~LEFT_COLUMN) >>> 1;
                int down = reached << GRID_SIDE;
                int up = reached >>> GRID_SIDE;
                reached |= (right | left | down | up) & shape;
            }
            return reached == shape;
        }

        static int normalize(int shape) {
            int shifted = shape;
            for (int step = 1; step < GRID_SIDE && (shifted & LEFT_COLUMN) == 0; step++) {
                shifted >>>= 1;
            }
            for (int step = 1; step < GRID_SIDE && (shifted & TOP_ROW) == 0; step++) {
                shifted >>>= GRID_SIDE;
            }
            return shifted;
        }

        static int turn(int shape) {
            int turned = 0;
            for (int square = 0; square < GRID_SQUARES; square++) {
                if (hasSquare(shape, square)) {
                    int row = square % GRID_SIDE;
                    int column = GRID_SIDE - 1 - square / GRID_SIDE;
                    turned |= 1 << (row * GRID_SIDE + column);
                }
            }
            return normalize(turned);
        }

        static int mirror(int shape) {
            int mirrored = 0;
            for (int square = 0; square < GRID_SQUARES; square++) {
                if (hasSquare(shape, square)) {
                    int row = square / GRID_SIDE;
                    int column = GRID_SIDE - 1 - square % GRID_SIDE;
                    mirrored |= 1 << (row * GRID_SIDE + column);
                }
            }
            return normalize(mirrored);
        }

        static boolean hasSquare(int shape, int square) {
            return (shape >>> square & 1) != 0;
        }
    }

    /** The forms of all pieces, those of each piece by ascending bits. */
    private static final class Forms {
        private final int[] shapes = new int[MOST_PIECES * MOST_FORMS];
        private final int[] sizes = new int[MOST_PIECES];

        void fill(Problem problem) {
            for (int piece = 0; piece < MOST_PIECES; piece++) {
                put(sizes, piece, 0);
                if (problem.hasPiece(piece)) {
                    int shape = problem.shapeOf(piece);
                    int freedom = problem.freedomOf(piece);
                    insertTurns(piece, shape, freedom >= TURNED ? QUARTERS : 1);
                    insertTurns(piece, Shapes.mirror(shape), freedom == MIRRORED ? QUARTERS : 0);
                }
            }
        }

        private void insertTurns(int piece, int shape, int quarters) {
            int turned = shape;
            for (int quarter = 0; quarter < quarters; quarter++) {
                insert(piece, turned);
                turned = Shapes.turn(turned);
            }
        }

        private void insert(int piece, int shape) {
            int size = sizeOf(piece);
            for (int form = 0; form < size; form++) {
                if (shapeOf(piece, form) == shape) {
                    return;
                }
            }
            if (size >= MOST_FORMS) {
                return;
            }
            int form = size;
            while (form > 0 && shapeOf(piece, form - 1) > shape) {
                put(shapes, piece * MOST_FORMS + form, shapeOf(piece, form - 1));
                form--;
            }
            put(shapes, piece * MOST_FORMS + form, shape);
            put(sizes, piece, size + 1);
        }

        int sizeOf(int piece) {
            return at(sizes, piece);
        }

        int shapeOf(int piece, int form) {
            return at(shapes, piece * MOST_FORMS + form);
        }
    }

    /** All placements, by ascending numbers, and an order of them by their smallest cells. */
    private static final class Placements {
        private static final int PART_BITS = 8;
        private static final int PART = 0xFF;

        private final long[] masks = new long[MOST_PLACEMENTS];
        /** Piece, form and corner of a placement in one number, to keep the rows few. */
        private final int[] codes = new int[MOST_PLACEMENTS];
        private final int[] order = new int[MOST_PLACEMENTS];
        private final int[] starts = new int[MOST_CELLS + 1];
        private int size = 0;
        private long open = 0;

        void fill(Problem problem, Forms forms) {
            size = 0;
            open = problem.openMask();
            for (int piece = 0; piece < problem.pieceCount; piece++) {
                for (int form = 0; form < forms.sizeOf(piece); form++) {
                    fillForm(problem, piece, form, forms.shapeOf(piece, form));
                }
            }
            fillOrder();
        }

        private void fillForm(Problem problem, int piece, int form, int shape) {
            int colour = problem.colourOf(piece);
            for (int corner = 0; corner < problem.cellCount(); corner++) {
                long mask = lay(problem, shape, colour, corner);
                if (mask != 0 && size >= 0 && size < MOST_PLACEMENTS) {
                    masks[size] = mask;
                    codes[size] = (corner << PART_BITS | form) << PART_BITS | piece;
                    size++;
                }
            }
        }

        /** Returns the cells under a shape, or no cells at all if it can't lie there. */
        private static long lay(Problem problem, int shape, int colour, int corner) {
            int left = problem.columnOf(corner);
            int top = problem.rowOf(corner);
            long mask = 0;
            for (int square = 0; square < GRID_SQUARES && shape >>> square != 0; square++) {
                if (Shapes.hasSquare(shape, square)) {
                    int x = left + square % GRID_SIDE;
                    int y = top + square / GRID_SIDE;
                    int cell = y * problem.width + x;
                    if (x >= problem.width || y >= problem.height
                            || !problem.takesColour(cell, colour)) {
                        return 0;
                    }
                    mask |= 1L << cell;
                }
            }
            return mask;
        }

        /** Counts first; then each start moves down from the end of its part of the order. */
        private void fillOrder() {
            for (int cell = 0; cell < starts.length; cell++) {
                starts[cell] = 0;
            }
            for (int placement = 0; placement < size; placement++) {
                int cell = smallestCell(maskOf(placement));
                put(starts, cell, at(starts, cell) + 1);
            }
            int end = 0;
            for (int cell = 0; cell < starts.length; cell++) {
                end += starts[cell];
                starts[cell] = end;
            }
            for (int placement = size - 1; placement >= 0; placement--) {
                int cell = smallestCell(maskOf(placement));
                put(starts, cell, at(starts, cell) - 1);
                put(order, at(starts, cell), placement);
            }
        }

        long maskOf(int placement) {
            return placement >= 0 && placement < size && placement < MOST_PLACEMENTS
                    ? masks[placement] : 0;
        }

        int pieceOf(int placement) {
            return at(codes, placement) & PART;
        }

        int formOf(int placement) {
            return at(codes, placement) >>> PART_BITS & PART;
        }

        int cornerOf(int placement) {
            return at(codes, placement) >>> 2 * PART_BITS;
        }

        int sizeOf(int piece) {
            int sum = 0;
            for (int placement = 0; placement < size; placement++) {
                if (pieceOf(placement) == piece) {
                    sum++;
                }
            }
            return sum;
        }
    }

    /** The symmetries of the board, each as the row of the cells to which it maps the cells. */
    private static final class Symmetries {
        private static final int FLIPS_COLUMNS = 1;
        private static final int FLIPS_ROWS = 2;
        private static final int SWAPS = 4;

        private final int[] images = new int[SYMMETRIES * MOST_CELLS];
        private int size = 0;

        void fill(Problem problem) {
            int kinds = problem.width == problem.height ? SYMMETRIES : UPRIGHT_SYMMETRIES;
            size = 0;
            for (int kind = 0; kind < kinds; kind++) {
                if (fillNext(problem, kind)) {
                    size++;
                }
            }
        }

        private boolean fillNext(Problem problem, int kind) {
            for (int cell = 0; cell < problem.cellCount(); cell++) {
                int image = mapCell(problem, kind, cell);
                if (problem.cellAt(image) != problem.cellAt(cell)) {
                    return false;
                }
                put(images, size * MOST_CELLS + cell, image);
            }
            return true;
        }

        private static int mapCell(Problem problem, int kind, int cell) {
            int x = problem.columnOf(cell);
            int y = problem.rowOf(cell);
            if ((kind & FLIPS_COLUMNS) != 0) {
                x = problem.width - 1 - x;
            }
            if ((kind & FLIPS_ROWS) != 0) {
                y = problem.height - 1 - y;
            }
            return (kind & SWAPS) != 0 ? x * problem.width + y : y * problem.width + x;
        }

        int imageOf(int symmetry, int cell) {
            return at(images, symmetry * MOST_CELLS + cell);
        }
    }

    /**
     * The search for covers, which can be stopped at each cover and gone on with.
     *
     * <p>All open cells ahead of the cell that is taken are in placements already, so only the
     * placements whose smallest cell it is can fit: the others need not be looked at.
     */
    private static final class Walk {
        private final Problem problem;
        private final Placements placements;
        private final int[] chosen = new int[MOST_CELLS];
        private final int[] next = new int[MOST_CELLS];
        private final int[] copiesLeft = new int[MOST_PIECES];
        private final long[] takenByColour = new long[COLOURS];
        private long taken = 0;
        private long leftColumn = 0;
        private long rightColumn = 0;
        private int level = 0;
        private int copyCount = 0;
        private int tryCount = 0;
        private int coverCount = 0;
        private boolean unseen = false;
        private boolean over = true;
        private boolean unfinished = false;

        Walk(Problem problem, Placements placements) {
            this.problem = problem;
            this.placements = placements;
        }

        void begin() {
            for (int piece = 0; piece < MOST_PIECES; piece++) {
                put(copiesLeft, piece, problem.copiesOf(piece));
            }
            for (int colour = 0; colour < COLOURS; colour++) {
                takenByColour[colour] = 0;
            }
            leftColumn = 0;
            rightColumn = 0;
            for (int y = 0; y < problem.height; y++) {
                leftColumn |= 1L << (y * problem.width);
                rightColumn |= 1L << (y * problem.width + problem.width - 1);
            }
            taken = 0;
            level = 0;
            copyCount = problem.copyCount();
            tryCount = 0;
            coverCount = 0;
            unseen = true;
            over = false;
            unfinished = false;
            openLevel();
        }

        /** Goes on to the next cover; returns whether there is one. */
        boolean advance() {
            for (int turn = 0; turn < MOST_TURNS && !over; turn++) {
                boolean full = taken == placements.open;
                if (full && unseen && isCover()) {
                    unseen = false;
                    coverCount++;
                    return true;
                }
                int placement = full ? NO_PLACEMENT : nextThatFits();
                if (placement == NO_PLACEMENT) {
                    stepBack();
                } else if (tryCount < MOST_TRIES) {
                    stepOn(placement);
                } else {
                    over = true;
                    unfinished = true;
                }
            }
            return false;
        }

        private boolean isCover() {
            return problem.mode == 0 || level == copyCount;
        }

        private void stepOn(int placement) {
            tryCount++;
            change(placement, 1);
            put(chosen, level, placement);
            level++;
            unseen = true;
            openLevel();
        }

        private void stepBack() {
            if (level == 0) {
                over = true;
            } else {
                level--;
                change(at(chosen, level), -1);
            }
        }

        private void openLevel() {
            int cell = smallestCell(placements.open & ~taken);
            put(next, level, at(placements.starts, cell));
        }

        private int nextThatFits() {
            int cell = smallestCell(placements.open & ~taken);
            int end = at(placements.starts, cell + 1);
            for (int place = at(next, level); place < end; place++) {
                int placement = at(placements.order, place);
                long mask = placements.maskOf(placement);
                if ((mask & taken) == 0 && isAllowed(placements.pieceOf(placement), mask)) {
                    put(next, level, place + 1);
                    return placement;
                }
            }
            return NO_PLACEMENT;
        }

        private boolean isAllowed(int piece, long mask) {
            if (at(copiesLeft, piece) == 0) {
                return false;
            }
            int colour = problem.colourOf(piece);
            return problem.rule == 0 || colour <= 0 || colour >= COLOURS
                    || (around(mask) & takenByColour[colour]) == 0;
        }

        private long around(long mask) {
            long right = (mask & ~rightColumn) << 1;
            long left = (mask & ~leftColumn) >>> 1;
            return right | left | mask << problem.width | mask >>> problem.width;
        }

        /** Puts a placement on the board (1) or takes it back (-1): both change the same cells. */
        private void change(int placement, int sign) {
            long mask = placements.maskOf(placement);
            int piece = placements.pieceOf(placement);
            int colour = problem.colourOf(piece);
            taken ^= mask;
            put(copiesLeft, piece, at(copiesLeft, piece) - sign);
            if (colour >= 0 && colour < COLOURS) {
                takenByColour[colour] ^= mask;
            }
        }

        /** Writes the cover that stands: for each cell the placement that contains it. */
        void writeTo(int[] rows, int start) {
            for (int cell = 0; cell < MOST_CELLS; cell++) {
                put(rows, start + cell, NO_PLACEMENT);
            }
            for (int step = 0; step < level; step++) {
                int placement = at(chosen, step);
                long mask = placements.maskOf(placement);
                for (int cell = smallestCell(mask); cell < MOST_CELLS; cell++) {
                    if (holds(mask, cell)) {
                        put(rows, start + cell, placement);
                    }
                }
            }
        }
    }

    /** What the search found: the first covers are kept, the later ones are sought again. */
    private static final class Covers {
        private final Walk walk;
        private final Placements placements;
        private final Symmetries symmetries;
        private final int[] rows = new int[(KEPT_COVERS + SPARE_ROWS) * MOST_CELLS];
        private int size = 0;
        private int tryCount = 0;
        private int least = 0;
        private boolean finished = false;

        Covers(Walk walk, Placements placements, Symmetries symmetries) {
            this.walk = walk;
            this.placements = placements;
            this.symmetries = symmetries;
        }

        void collect() {
            size = 0;
            least = 0;
            walk.begin();
            for (int turn = 0; turn <= MOST_TRIES && walk.advance(); turn++) {
                if (size < KEPT_COVERS) {
                    walk.writeTo(rows, size * MOST_CELLS);
                }
                least = size == 0 ? walk.level : Math.min(least, walk.level);
                size++;
            }
            tryCount = walk.tryCount;
            finished = !walk.unfinished;
        }

        /** Returns the row of a cover; a cover that is not kept is written to a spare row. */
        int rowOf(int cover, int spare) {
            if (cover < KEPT_COVERS) {
                return cover;
            }
            if (walk.over || walk.coverCount > cover + 1) {
                walk.begin();
            }
            for (int turn = 0; turn <= MOST_TRIES && walk.coverCount <= cover; turn++) {
                walk.advance();
            }
            walk.writeTo(rows, (KEPT_COVERS + spare) * MOST_CELLS);
            return KEPT_COVERS + spare;
        }

        int placementAt(int row, int cell) {
            return at(rows, row * MOST_CELLS + cell);
        }

        private boolean beginsAt(int placement, int cell) {
            return placement != NO_PLACEMENT
                    && smallestCell(placements.maskOf(placement)) == cell;
        }

        int usesOf(int piece, int row) {
            int sum = 0;
            for (int cell = 0; cell < MOST_CELLS; cell++) {
                int placement = placementAt(row, cell);
                if (beginsAt(placement, cell) && placements.pieceOf(placement) == piece) {
                    sum++;
                }
            }
            return sum;
        }

        int classCount() {
            int sum = 0;
            for (int row = 0; row < size && row < KEPT_COVERS; row++) {
                if (!isLikeEarlier(row)) {
                    sum++;
                }
            }
            return sum;
        }

        private boolean isLikeEarlier(int row) {
            for (int earlier = 0; earlier < row; earlier++) {
                if (areAlike(earlier, row)) {
                    return true;
                }
            }
            return false;
        }

        boolean areAlike(int first, int second) {
            for (int symmetry = 0; symmetry < symmetries.size; symmetry++) {
                if (isMapped(symmetry, first, second)) {
                    return true;
                }
            }
            return false;
        }

        /**
         * Tells whether a symmetry maps one cover to another. Placements of one piece have the same
         * number of cells, so it is enough that the cells of each get into the same placement.
         */
        private boolean isMapped(int symmetry, int first, int second) {
            for (int cell = 0; cell < MOST_CELLS; cell++) {
                int placement = placementAt(first, cell);
                if (placement != NO_PLACEMENT) {
                    int begin = smallestCell(placements.maskOf(placement));
                    int image = placementAt(second, symmetries.imageOf(symmetry, begin));
                    if (image != placementAt(second, symmetries.imageOf(symmetry, cell))
                            || placements.pieceOf(image) != placements.pieceOf(placement)) {
                        return false;
                    }
                }
            }
            return true;
        }
    }

    /** Tells the useful placements from those that are struck out. */
    private static final class Sieve {
        private final boolean[] struck = new boolean[MOST_PLACEMENTS];

        void sift(Placements placements) {
            for (int placement = 0; placement < MOST_PLACEMENTS; placement++) {
                struck[placement] = false;
            }
            boolean again = true;
            for (int pass = 0; pass <= MOST_PLACEMENTS && again; pass++) {
                again = strikeSome(placements);
            }
        }

        private boolean strikeSome(Placements placements) {
            boolean some = false;
            for (int placement = 0; placement < limitOf(placements); placement++) {
                if (!struck[placement] && !leavesAllCoverable(placements, placement)) {
                    struck[placement] = true;
                    some = true;
                }
            }
            return some;
        }

        private int limitOf(Placements placements) {
            return Math.min(placements.size, struck.length);
        }

        private boolean leavesAllCoverable(Placements placements, int placement) {
            long mask = placements.maskOf(placement);
            long coverable = mask;
            int limit = limitOf(placements);
            for (int other = 0; other < limit && coverable != placements.open; other++) {
                long otherMask = placements.maskOf(other);
                if (!struck[other] && (otherMask & mask) == 0) {
                    coverable |= otherMask;
                }
            }
            return coverable == placements.open;
        }

        int leftOfPiece(Placements placements, int piece) {
            int sum = 0;
            for (int placement = 0; placement < limitOf(placements); placement++) {
                if (!struck[placement] && placements.pieceOf(placement) == piece) {
                    sum++;
                }
            }
            return sum;
        }

        int leftAtCell(Placements placements, int cell) {
            int sum = 0;
            for (int placement = 0; placement < limitOf(placements); placement++) {
                if (!struck[placement] && holds(placements.maskOf(placement), cell)) {
                    sum++;
                }
            }
            return sum;
        }
    }

    /** Proofs by weights; a set of sums modulo m is held as bits, bit s for the sum s. */
    private static final class Weights {
        private final int[] ofCells = new int[MOST_CELLS];
        private final int[] ofPieces = new int[MOST_PIECES];
        private int modulus = LEAST_MODULUS;

        boolean excludeCover(Problem problem, Placements placements, int a, int b, int m) {
            modulus = m;
            weighCells(problem, a, b);
            weighPieces(placements);
            int sums = 1;
            for (int piece = 0; piece < problem.pieceCount; piece++) {
                // With the mode 0 a copy may be left out, which adds nothing.
                int steps = at(ofPieces, piece) | (problem.mode == 0 ? 1 : 0);
                for (int copy = 0; copy < problem.copiesOf(piece); copy++) {
                    sums = addAll(sums, steps);
                }
            }
            return (sums >>> weightOf(placements.open) & 1) == 0;
        }

        private void weighCells(Problem problem, int a, int b) {
            for (int cell = 0; cell < ofCells.length; cell++) {
                ofCells[cell] = rest(a * problem.columnOf(cell) + b * problem.rowOf(cell));
            }
        }

        private void weighPieces(Placements placements) {
            for (int piece = 0; piece < ofPieces.length; piece++) {
                ofPieces[piece] = 0;
            }
            for (int placement = 0; placement < placements.size; placement++) {
                int piece = placements.pieceOf(placement);
                int weight = weightOf(placements.maskOf(placement));
                put(ofPieces, piece, at(ofPieces, piece) | 1 << weight);
            }
        }

        private int weightOf(long mask) {
            int sum = 0;
            for (int cell = smallestCell(mask); cell < MOST_CELLS && mask >>> cell != 0; cell++) {
                if (holds(mask, cell)) {
                    sum += at(ofCells, cell);
                }
            }
            return rest(sum);
        }

        private int rest(int sum) {
            return modulus > 0 ? sum % modulus : 0;
        }

        private int addAll(int sums, int steps) {
            int set = 0;
            for (int sum = 0; sum < modulus; sum++) {
                for (int step = 0; step < modulus; step++) {
                    if ((sums >>> sum & 1) != 0 && (steps >>> step & 1) != 0) {
                        set |= 1 << rest(sum + step);
                    }
                }
            }
            return set;
        }
    }

    /** Keeps the text and reads it into a draft: a text that is no problem changes nothing. */
    private static final class Reader {
        private final int[] characters = new int[MOST_CHARACTERS];
        private int length = 0;
        private final Problem draft = new Problem();
        private int position = 0;
        private int columns = 0;
        private int rows = 0;
        private int shape = 0;

        void append(int character) {
            if (length >= 0 && length < MOST_CHARACTERS) {
                characters[length] = character;
                length++;
            }
        }

        void handOver(Problem problem) {
            draft.mode = problem.mode;
            draft.rule = problem.rule;
            problem.copyFrom(draft);
        }

        /** Returns the error position, or NO_ERROR. */
        int read() {
            position = 0;
            draft.pieceCount = 0;
            if (!readBoard()) {
                return position;
            }
            for (int piece = 0; piece < MOST_PIECES && look() == '|'; piece++) {
                position++;
                if (!readPiece()) {
                    return position;
                }
            }
            return look() == TEXT_END ? NO_ERROR : position;
        }

        private int look() {
            boolean within = position >= 0 && position < length && position < MOST_CHARACTERS;
            return within ? characters[position] : TEXT_END;
        }

        private boolean readBoard() {
            if (!readRows(MOST_SIDE, true)) {
                return false;
            }
            draft.width = columns;
            draft.height = rows;
            return true;
        }

        /** What follows the rows is left to the caller, who allows no further square or "/". */
        private boolean readRows(int mostSide, boolean ofBoard) {
            columns = mostSide;
            for (int row = 0; row < mostSide; row++) {
                int squares = readRow(row, ofBoard);
                if (row == 0) {
                    columns = squares;
                }
                if (squares == 0 || squares < columns) {
                    return false;
                }
                rows = row + 1;
                if (rows == mostSide || look() != '/') {
                    return true;
                }
                position++;
            }
            return true;
        }

        /** Reads at most as many squares as there are columns and returns their number. */
        private int readRow(int row, boolean ofBoard) {
            int column = 0;
            while (column < columns
                    && (ofBoard ? readCell(row, column) : readSquare(row, column))) {
                position++;
                column++;
            }
            return column;
        }

        private boolean readCell(int row, int column) {
            int character = look();
            int cell = row * columns + column;
            if (character == '.') {
                draft.putCell(cell, 0);
            } else if (character == '#') {
                draft.putCell(cell, HOLE);
            } else if (isWithin(character, '1', '3')) {
                draft.putCell(cell, character - '0');
            } else {
                return false;
            }
            return true;
        }

        private boolean readSquare(int row, int column) {
            int character = look();
            if (character == 'o') {
                shape |= 1 << (row * GRID_SIDE + column);
            }
            return character == 'o' || character == '.';
        }

        private boolean readPiece() {
            shape = 0;
            return readRows(GRID_SIDE, false) && Shapes.isShape(shape) && readOptions();
        }

        private boolean readOptions() {
            int freedom = 0;
            int colour = 0;
            int copies = 0;
            for (int option = 0; option < MOST_OPTIONS; option++) {
                int letter = look();
                if ((letter == 't' || letter == 'm') && freedom == 0) {
                    freedom = letter == 't' ? TURNED : MIRRORED;
                    position++;
                } else if (letter == 'c' && colour == 0) {
                    position++;
                    colour = readDigit(MOST_COLOUR);
                    if (colour == 0) {
                        return false;
                    }
                } else if (letter == 'x' && copies == 0) {
                    position++;
                    copies = readDigit(MOST_COPIES);
                    if (copies == 0) {
                        return false;
                    }
                }
            }
            draft.append(Shapes.normalize(shape), freedom, colour, Math.max(copies, 1));
            return true;
        }

        /** Returns the digit, or 0 if there is none from 1 to the given one. */
        private int readDigit(int most) {
            int digit = look() - '0';
            if (digit < 1 || digit > most) {
                return 0;
            }
            position++;
            return digit;
        }
    }
}
