import java.util.ArrayDeque;
import java.util.ArrayList;
import java.util.Deque;
import java.util.HashMap;
import java.util.HashSet;
import java.util.List;
import java.util.Map;
import java.util.Set;
import java.util.TreeSet;
import java.util.regex.Matcher;
import java.util.regex.Pattern;

/**
 * The document once more, word by word and without any care for speed or room: what the random
 * runs of RandomRunsTest compare the program with. It shares no code and no idea with it.
 */
final class NaiveCover {
    record Piece(Set<List<Integer>> squares, int freedom, int colour, int copies) { }

    record State(int w, int h, List<Integer> cells, List<Piece> pieces, int mode, int rule) { }

    record Placement(int piece, int form, int corner, Set<Integer> cells) { }

    private static final int HOLE = -1;

    private State state = new State(4, 4, emptyCells(16), List.of(), 0, 0);
    private final Deque<State> saved = new ArrayDeque<>();
    private String text = "";

    private List<Placement> placements;
    private List<List<Integer>> covers;
    private int tries;
    private boolean unfinished;
    private Set<Integer> useful;

    private static List<Integer> emptyCells(int number) {
        return new ArrayList<>(java.util.Collections.nCopies(number, 0));
    }

    private void become(State next) {
        saved.addLast(state);
        if (saved.size() > 6) {
            saved.removeFirst();
        }
        state = next;
        forget();
    }

    private void forget() {
        placements = null;
        covers = null;
        useful = null;
    }

    private boolean noCell(int cell) {
        return cell < 0 || cell >= state.w * state.h;
    }

    private boolean noPiece(int piece) {
        return piece < 0 || piece >= state.pieces.size();
    }

    private boolean hole(int cell) {
        return state.cells.get(cell) == HOLE;
    }

    private State withCell(int cell, int content) {
        List<Integer> cells = new ArrayList<>(state.cells);
        cells.set(cell, content);
        return new State(state.w, state.h, cells, state.pieces, state.mode, state.rule);
    }

    private State withPieces(List<Piece> pieces) {
        return new State(state.w, state.h, state.cells, pieces, state.mode, state.rule);
    }

    int setBoard(int width, int height) {
        if (width < 1 || width > 6 || height < 1 || height > 6) {
            return -1;
        }
        become(new State(width, height, emptyCells(width * height), state.pieces, state.mode,
                state.rule));
        return width * height;
    }

    int setHole(int cell, int on) {
        if (noCell(cell) || on < 0 || on > 1) {
            return -1;
        }
        if (hole(cell) && on == 1 || !hole(cell) && on == 0) {
            return -2;
        }
        become(withCell(cell, on == 1 ? HOLE : 0));
        return count(2);
    }

    int setColour(int cell, int colour) {
        if (noCell(cell) || colour < 0 || colour > 3) {
            return -1;
        }
        if (hole(cell)) {
            return -2;
        }
        int before = state.cells.get(cell);
        become(withCell(cell, colour));
        return before;
    }

    private static Set<List<Integer>> squares(int bits) {
        Set<List<Integer>> set = new HashSet<>();
        for (int row = 0; row < 4; row++) {
            for (int column = 0; column < 4; column++) {
                if ((bits & 1 << 4 * row + column) != 0) {
                    set.add(List.of(row, column));
                }
            }
        }
        return set;
    }

    private static boolean hangsTogether(Set<List<Integer>> squares) {
        Set<List<Integer>> rest = new HashSet<>(squares);
        Deque<List<Integer>> open = new ArrayDeque<>();
        open.add(rest.iterator().next());
        rest.removeAll(open);
        while (!open.isEmpty()) {
            List<Integer> at = open.remove();
            for (List<Integer> other : List.copyOf(rest)) {
                if (Math.abs(at.get(0) - other.get(0)) + Math.abs(at.get(1) - other.get(1)) == 1) {
                    rest.remove(other);
                    open.add(other);
                }
            }
        }
        return rest.isEmpty();
    }

    private static boolean isShape(Set<List<Integer>> squares) {
        return squares.size() >= 1 && squares.size() <= 5 && hangsTogether(squares);
    }

    private static Set<List<Integer>> normal(Set<List<Integer>> squares) {
        int top = squares.stream().mapToInt(s -> s.get(0)).min().getAsInt();
        int left = squares.stream().mapToInt(s -> s.get(1)).min().getAsInt();
        Set<List<Integer>> set = new HashSet<>();
        squares.forEach(s -> set.add(List.of(s.get(0) - top, s.get(1) - left)));
        return set;
    }

    private static int bits(Set<List<Integer>> squares) {
        return squares.stream().mapToInt(s -> 1 << 4 * s.get(0) + s.get(1)).sum();
    }

    int addPiece(int shape, int freedom, int colour) {
        if (shape < 0 || shape > 65535 || !isShape(squares(shape)) || freedom < 0 || freedom > 2
                || colour < 0 || colour > 3) {
            return -1;
        }
        if (state.pieces.size() == 8) {
            return -3;
        }
        List<Piece> pieces = new ArrayList<>(state.pieces);
        pieces.add(new Piece(normal(squares(shape)), freedom, colour, 1));
        become(withPieces(pieces));
        return pieces.size() - 1;
    }

    int removePiece(int piece) {
        if (noPiece(piece)) {
            return -1;
        }
        List<Piece> pieces = new ArrayList<>(state.pieces);
        pieces.remove(piece);
        become(withPieces(pieces));
        return pieces.size();
    }

    int setCopies(int piece, int copies) {
        if (noPiece(piece) || copies < 1 || copies > 9) {
            return -1;
        }
        Piece old = state.pieces.get(piece);
        List<Piece> pieces = new ArrayList<>(state.pieces);
        pieces.set(piece, new Piece(old.squares, old.freedom, old.colour, copies));
        become(withPieces(pieces));
        return old.copies;
    }

    int setMode(int mode) {
        if (mode != 0 && mode != 1) {
            return -1;
        }
        int before = state.mode;
        become(new State(state.w, state.h, state.cells, state.pieces, mode, state.rule));
        return before;
    }

    int setRule(int rule) {
        if (rule != 0 && rule != 1) {
            return -1;
        }
        int before = state.rule;
        become(new State(state.w, state.h, state.cells, state.pieces, state.mode, rule));
        return before;
    }

    int count(int what) {
        return switch (what) {
            case 0 -> state.w;
            case 1 -> state.h;
            case 2 -> (int) state.cells.stream().filter(c -> c != HOLE).count();
            case 3 -> state.pieces.size();
            case 4 -> state.mode;
            case 5 -> state.rule;
            case 6 -> state.pieces.stream().mapToInt(p -> p.copies * p.squares.size()).sum();
            case 7 -> placements().size();
            case 8 -> symmetries().size();
            case 9 -> saved.size();
            default -> -1;
        };
    }

    int colour(int cell) {
        return noCell(cell) ? -1 : hole(cell) ? -9 : state.cells.get(cell);
    }

    int piece(int piece, int what) {
        if (noPiece(piece)) {
            return -1;
        }
        Piece p = state.pieces.get(piece);
        return switch (what) {
            case 0 -> bits(p.squares);
            case 1 -> p.freedom;
            case 2 -> p.colour;
            case 3 -> p.copies;
            case 4 -> p.squares.size();
            case 5 -> forms(p).size();
            case 6 -> (int) placements().stream().filter(q -> q.piece == piece).count();
            default -> -1;
        };
    }

    private static List<Integer> forms(Piece p) {
        TreeSet<Integer> all = new TreeSet<>();
        Set<List<Integer>> mirrored = new HashSet<>();
        p.squares.forEach(s -> mirrored.add(List.of(s.get(0), -s.get(1))));
        all.add(bits(normal(p.squares)));
        Set<List<Integer>> one = p.squares;
        Set<List<Integer>> two = mirrored;
        for (int turn = 0; turn < 4; turn++) {
            Set<List<Integer>> nextOne = new HashSet<>();
            Set<List<Integer>> nextTwo = new HashSet<>();
            one.forEach(s -> nextOne.add(List.of(-s.get(1), s.get(0))));
            two.forEach(s -> nextTwo.add(List.of(-s.get(1), s.get(0))));
            one = nextOne;
            two = nextTwo;
            if (p.freedom > 0) {
                all.add(bits(normal(one)));
            }
            if (p.freedom > 1) {
                all.add(bits(normal(two)));
            }
        }
        return List.copyOf(all);
    }

    int form(int piece, int form) {
        if (noPiece(piece) || form < 0) {
            return -1;
        }
        List<Integer> forms = forms(state.pieces.get(piece));
        return form < forms.size() ? forms.get(form) : -9;
    }

    private List<Placement> placements() {
        if (placements != null) {
            return placements;
        }
        placements = new ArrayList<>();
        for (int piece = 0; piece < state.pieces.size(); piece++) {
            List<Integer> forms = forms(state.pieces.get(piece));
            for (int form = 0; form < forms.size(); form++) {
                for (int corner = 0; corner < state.w * state.h; corner++) {
                    Set<Integer> cells = lay(squares(forms.get(form)), corner,
                            state.pieces.get(piece).colour);
                    if (cells != null) {
                        placements.add(new Placement(piece, form, corner, cells));
                    }
                }
            }
        }
        return placements;
    }

    private Set<Integer> lay(Set<List<Integer>> squares, int corner, int colour) {
        Set<Integer> cells = new TreeSet<>();
        for (List<Integer> s : squares) {
            int x = corner % state.w + s.get(1);
            int y = corner / state.w + s.get(0);
            if (x >= state.w || y >= state.h) {
                return null;
            }
            int content = state.cells.get(y * state.w + x);
            if (content != 0 && content != colour) {
                return null;
            }
            cells.add(y * state.w + x);
        }
        return cells;
    }

    int placement(int placement, int part) {
        if (placement < 0 || part < 0 || part > 4) {
            return -1;
        }
        if (placement >= placements().size()) {
            return -9;
        }
        Placement p = placements().get(placement);
        return switch (part) {
            case 0 -> p.piece;
            case 1 -> p.form;
            case 2 -> p.corner;
            case 3 -> java.util.Collections.min(p.cells);
            default -> java.util.Collections.max(p.cells);
        };
    }

    int appendCharacter(int character) {
        if (character < 0 || character > 255) {
            return -1;
        }
        if (text.length() == 160) {
            return -3;
        }
        text += (char) character;
        return text.length();
    }

    int clearText() {
        int length = text.length();
        text = "";
        return length;
    }

    private static final Pattern GRAMMAR = Pattern.compile(grammar());

    private static String rows(String square, int mostSide) {
        List<String> widths = new ArrayList<>();
        for (int w = 1; w <= mostSide; w++) {
            String row = square + "{" + w + "}";
            widths.add(row + "(?:/" + row + "){0," + (mostSide - 1) + "}");
        }
        return "(?:" + String.join("|", widths) + ")";
    }

    private static String grammar() {
        String[] o = {"[tm]?", "(?:c[1-3])?", "(?:x[1-9])?"};
        String options = "(?:" + o[0] + o[1] + o[2] + "|" + o[0] + o[2] + o[1] + "|"
                + o[1] + o[0] + o[2] + "|" + o[1] + o[2] + o[0] + "|"
                + o[2] + o[0] + o[1] + "|" + o[2] + o[1] + o[0] + ")";
        return rows("[.123#]", 6) + "(?:\\|" + rows("[o.]", 4) + options + "){0,8}";
    }

    /** The first character that no continuation of the text before it could begin with. */
    private int grammarError() {
        for (int end = 1; end <= text.length(); end++) {
            Matcher matcher = GRAMMAR.matcher(text.substring(0, end));
            if (!matcher.matches() && !matcher.hitEnd()) {
                return end - 1;
            }
        }
        return GRAMMAR.matcher(text).matches() ? -1 : text.length();
    }

    private int shapeError() {
        for (int bar = text.indexOf('|'); bar >= 0; bar = text.indexOf('|', bar + 1)) {
            int end = bar + 1;
            while (end < text.length() && "o./".indexOf(text.charAt(end)) >= 0) {
                end++;
            }
            if (!isShape(readSquares(text.substring(bar + 1, end)))) {
                return end;
            }
        }
        return -1;
    }

    private static Set<List<Integer>> readSquares(String rows) {
        Set<List<Integer>> set = new HashSet<>();
        int row = 0;
        int column = 0;
        for (char c : rows.toCharArray()) {
            if (c == 'o') {
                set.add(List.of(row, column));
            }
            column = c == '/' ? 0 : column + 1;
            row = c == '/' ? row + 1 : row;
        }
        return set;
    }

    int load() {
        int grammarError = grammarError();
        String whole = text;
        if (grammarError >= 0) {
            // Only what stands ahead of the error has been read as pieces.
            text = text.substring(0, grammarError);
        }
        int shapeError = shapeError();
        text = whole;
        if (shapeError >= 0) {
            return -10 - shapeError;
        }
        if (grammarError >= 0) {
            return -10 - grammarError;
        }
        String[] parts = text.split("\\|");
        String[] rows = parts[0].split("/");
        List<Integer> cells = new ArrayList<>();
        for (char c : parts[0].replace("/", "").toCharArray()) {
            cells.add(c == '#' ? HOLE : c == '.' ? 0 : c - '0');
        }
        List<Piece> pieces = new ArrayList<>();
        for (int i = 1; i < parts.length; i++) {
            String options = parts[i].replaceAll("[o./]", "");
            int c = options.indexOf('c');
            int x = options.indexOf('x');
            pieces.add(new Piece(normal(readSquares(parts[i].replaceAll("[^o./]", ""))),
                    options.contains("t") ? 1 : options.contains("m") ? 2 : 0,
                    c < 0 ? 0 : options.charAt(c + 1) - '0',
                    x < 0 ? 1 : options.charAt(x + 1) - '0'));
        }
        become(new State(rows[0].length(), rows.length, cells, pieces, state.mode, state.rule));
        text = "";
        return pieces.size();
    }

    private void search() {
        if (covers == null) {
            covers = new ArrayList<>();
            tries = 0;
            unfinished = false;
            step(new ArrayList<>());
        }
    }

    /** Returns false if the search has to end. */
    private boolean step(List<Integer> put) {
        Set<Integer> taken = new HashSet<>();
        put.forEach(p -> taken.addAll(placements().get(p).cells));
        int cell = 0;
        while (cell < state.w * state.h && (hole(cell) || taken.contains(cell))) {
            cell++;
        }
        if (cell == state.w * state.h) {
            if (state.mode == 0 || put.size() == state.pieces.stream().mapToInt(p -> p.copies).sum()) {
                covers.add(List.copyOf(put));
            }
            return true;
        }
        for (int p = 0; p < placements().size(); p++) {
            if (placements().get(p).cells.contains(cell) && fits(p, put, taken)) {
                if (tries == 20000) {
                    unfinished = true;
                    return false;
                }
                tries++;
                put.add(p);
                boolean goOn = step(put);
                put.remove(put.size() - 1);
                if (!goOn) {
                    return false;
                }
            }
        }
        return true;
    }

    private boolean fits(int p, List<Integer> put, Set<Integer> taken) {
        Placement one = placements().get(p);
        if (one.cells.stream().anyMatch(taken::contains)) {
            return false;
        }
        Piece piece = state.pieces.get(one.piece);
        if (put.stream().filter(q -> placements().get(q).piece == one.piece).count() == piece.copies) {
            return false;
        }
        return state.rule == 0 || piece.colour == 0 || put.stream().noneMatch(q ->
                state.pieces.get(placements().get(q).piece).colour == piece.colour
                && touch(one.cells, placements().get(q).cells));
    }

    private boolean touch(Set<Integer> one, Set<Integer> two) {
        return one.stream().anyMatch(a -> two.stream().anyMatch(b ->
                Math.abs(a % state.w - b % state.w) + Math.abs(a / state.w - b / state.w) == 1));
    }

    int covers() {
        search();
        return unfinished ? -4 : covers.size();
    }

    int tries() {
        search();
        return unfinished ? -4 : tries;
    }

    int coverAt(int cover, int cell) {
        if (cover < 0 || noCell(cell)) {
            return -1;
        }
        search();
        if (cover >= covers.size()) {
            return unfinished ? -4 : -9;
        }
        return covers.get(cover).stream().filter(p -> placements().get(p).cells.contains(cell))
                .findAny().orElse(-9);
    }

    int used(int cover, int piece) {
        if (cover < 0 || noPiece(piece)) {
            return -1;
        }
        search();
        if (cover >= covers.size()) {
            return unfinished ? -4 : -9;
        }
        return (int) covers.get(cover).stream().filter(p -> placements().get(p).piece == piece)
                .count();
    }

    /** The symmetries as rows of images, made of a quarter turn and a mirror image. */
    private List<int[]> symmetries() {
        List<int[]> all = new ArrayList<>();
        for (int mirror = 0; mirror < 2; mirror++) {
            for (int turn = 0; turn < 4; turn++) {
                if (turn % 2 == 1 && state.w != state.h) {
                    continue;
                }
                int[] images = new int[state.w * state.h];
                boolean same = true;
                for (int cell = 0; cell < images.length; cell++) {
                    // Twice the distance from the middle, so that all turns are whole numbers.
                    int x = 2 * (cell % state.w) - state.w + 1;
                    int y = 2 * (cell / state.w) - state.h + 1;
                    if (mirror == 1) {
                        x = -x;
                    }
                    for (int quarter = 0; quarter < turn; quarter++) {
                        int oldX = x;
                        x = -y;
                        y = oldX;
                    }
                    images[cell] = (y + state.h - 1) / 2 * state.w + (x + state.w - 1) / 2;
                    same &= state.cells.get(images[cell]).equals(state.cells.get(cell));
                }
                if (same) {
                    all.add(images);
                }
            }
        }
        return all;
    }

    private Set<List<Object>> asSet(int cover, int[] images) {
        Set<List<Object>> set = new HashSet<>();
        for (int p : covers.get(cover)) {
            Set<Integer> cells = new HashSet<>();
            placements().get(p).cells.forEach(c -> cells.add(images == null ? c : images[c]));
            set.add(List.of(placements().get(p).piece, cells));
        }
        return set;
    }

    private boolean areAlike(int first, int second) {
        return symmetries().stream().anyMatch(s -> asSet(first, s).equals(asSet(second, null)));
    }

    int classes() {
        search();
        if (unfinished) {
            return -4;
        }
        if (covers.size() > 100) {
            return -3;
        }
        Map<Set<List<Object>>, Integer> classOf = new HashMap<>();
        int number = 0;
        for (int c = 0; c < covers.size(); c++) {
            if (!classOf.containsKey(asSet(c, null))) {
                for (int[] s : symmetries()) {
                    classOf.put(asSet(c, s), number);
                }
                number++;
            }
        }
        return number;
    }

    int alike(int first, int second) {
        if (first < 0 || second < 0) {
            return -1;
        }
        search();
        if (Math.max(first, second) >= covers.size()) {
            return unfinished ? -4 : -9;
        }
        return areAlike(first, second) ? 1 : 0;
    }

    int fewest() {
        search();
        return unfinished ? -4 : covers.stream().mapToInt(List::size).min().orElse(-9);
    }

    private Set<Integer> useful() {
        if (useful != null) {
            return useful;
        }
        useful = new TreeSet<>();
        for (int p = 0; p < placements().size(); p++) {
            useful.add(p);
        }
        boolean struck = true;
        while (struck) {
            struck = false;
            for (int p : List.copyOf(useful)) {
                if (isOfNoUse(p)) {
                    useful.remove(p);
                    struck = true;
                }
            }
        }
        return useful;
    }

    private boolean isOfNoUse(int p) {
        Set<Integer> own = placements().get(p).cells;
        for (int cell = 0; cell < state.w * state.h; cell++) {
            int at = cell;
            if (!hole(cell) && !own.contains(cell) && useful.stream().noneMatch(q ->
                    placements().get(q).cells.contains(at)
                    && java.util.Collections.disjoint(placements().get(q).cells, own))) {
                return true;
            }
        }
        return false;
    }

    int useful(int piece) {
        return noPiece(piece) ? -1
                : (int) useful().stream().filter(p -> placements().get(p).piece == piece).count();
    }

    int usefulAt(int cell) {
        return noCell(cell) ? -1 : hole(cell) ? -9
                : (int) useful().stream().filter(p -> placements().get(p).cells.contains(cell))
                        .count();
    }

    int proves(int a, int b, int m) {
        if (m < 2 || m > 5 || a < 0 || a >= m || b < 0 || b >= m) {
            return -1;
        }
        Set<Integer> sums = new HashSet<>(List.of(0));
        for (int piece = 0; piece < state.pieces.size(); piece++) {
            Set<Integer> next = new HashSet<>();
            for (Set<Integer> exactly : sumsByNumber(piece, a, b, m)) {
                for (int one : sums) {
                    exactly.forEach(two -> next.add((one + two) % m));
                }
            }
            sums = next;
        }
        Set<Integer> open = new HashSet<>();
        for (int cell = 0; cell < state.w * state.h; cell++) {
            if (!hole(cell)) {
                open.add(cell);
            }
        }
        return sums.contains(weight(open, a, b, m)) ? 0 : 1;
    }

    /** The sums of each number of placements that the mode allows. */
    private List<Set<Integer>> sumsByNumber(int piece, int a, int b, int m) {
        List<Set<Integer>> all = new ArrayList<>();
        Set<Integer> sums = new HashSet<>(List.of(0));
        int copies = state.pieces.get(piece).copies;
        for (int number = 0; number <= copies; number++) {
            if (state.mode == 0 || number == copies) {
                all.add(sums);
            }
            Set<Integer> next = new HashSet<>();
            for (Placement p : placements()) {
                if (p.piece == piece) {
                    sums.forEach(s -> next.add((s + weight(p.cells, a, b, m)) % m));
                }
            }
            sums = next;
        }
        return all;
    }

    private int weight(Set<Integer> cells, int a, int b, int m) {
        return cells.stream().mapToInt(c -> (a * (c % state.w) + b * (c / state.w)) % m).sum() % m;
    }

    int proof() {
        for (int m = 2; m <= 5; m++) {
            for (int a = 0; a < m; a++) {
                for (int b = 0; b < m; b++) {
                    if (proves(a, b, m) == 1) {
                        return 100 * m + 10 * a + b;
                    }
                }
            }
        }
        return -9;
    }

    int undo() {
        if (saved.isEmpty()) {
            return -2;
        }
        state = saved.removeLast();
        forget();
        return saved.size();
    }
}
