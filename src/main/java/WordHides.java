import java.util.Arrays;

/** Words hidden in a square: where they can be laid, which layings cross most and which are good. */
public final class WordHides {
    public static final int UNKNOWN = -1, OUTSIDE = -2, STATE = -3, FULL = -4, NO = -5, NONE = -6, FAULT = -7;

    private static final int EMPTY = 0, FIRST_LETTER = 97, LAST_LETTER = 122;
    private static final int LEAST_SIDE = 3, MOST_SIDE = 4, MOST_CELLS = 16;
    private static final int WAYS = 8;
    private static final int MOST_WORDS = 3, PAD_SIGNS = 16, IMAGES = 2;

    private static final int WORD = 0, BARRED = 1, REST = 2;
    private static final int[] LEAST_LETTERS = {3, 2, 1};
    private static final int[] MOST_LETTERS = {4, 4, 9};

    private static final int HOW_MANY = -1;
    private static final int FIRST_PLACE_ASKED = 10, FIRST_CELL_ASKED = 100;

    private static final int[] COLUMN_STEPS = {1, 1, 0, -1, -1, -1, 0, 1};
    private static final int[] ROW_STEPS = {0, 1, 1, 1, 0, -1, -1, -1};

    private final Lattice smallLattice = new Lattice(LEAST_SIDE);
    private final Lattice largeLattice = new Lattice(MOST_SIDE);
    private final Board board = new Board(largeLattice);
    private final Board[] images = new Board[IMAGES];
    private final Text pad = new Text(PAD_SIGNS);
    private final Square trial = new Square(largeLattice);
    private final CrossedSearch crossedSearch = new CrossedSearch(board);
    private final GoodSearch goodSearch = new GoodSearch(board);
    private int keptImages = 0;

    public WordHides() {
        for (int k = 0; k < IMAGES; k++) {
            images[k] = new Board(largeLattice);
        }
    }

    // ---- 1 the square, words

    public int side(int v) {
        if (v < LEAST_SIDE || v > MOST_SIDE) {
            return OUTSIDE;
        }
        int was = board.square.lattice.side;
        board.square.clear(v == LEAST_SIDE ? smallLattice : largeLattice);
        forgetLayings();
        return was;
    }

    public int set(int cell, int letter) {
        if (!board.square.lattice.hasCell(cell)) {
            return UNKNOWN;
        }
        if (letter != EMPTY && !isLetter(letter)) {
            return OUTSIDE;
        }
        int was = board.square.cells[cell];
        board.square.cells[cell] = letter;
        forgetLayings();
        return was;
    }

    public int at(int cell) {
        if (!board.square.lattice.hasCell(cell)) {
            return UNKNOWN;
        }
        int found = board.square.cells[cell];
        return found == EMPTY ? NONE : found;
    }

    public int say(int sign) {
        if (!isLetter(sign)) {
            return OUTSIDE;
        }
        if (pad.size >= PAD_SIGNS) {
            return FULL;
        }
        pad.append(sign);
        return pad.size;
    }

    public int wipe() {
        int had = pad.size;
        pad.size = 0;
        return had;
    }

    public int take(int kind) {
        if (kind < WORD || kind > REST) {
            return OUTSIDE;
        }
        if (pad.size < LEAST_LETTERS[kind] || pad.size > MOST_LETTERS[kind]) {
            return FAULT;
        }
        if (kind != REST && listOf(kind).size >= MOST_WORDS) {
            return FULL;
        }
        int answer;
        if (kind == REST) {
            board.rest.copyFrom(pad);
            answer = board.rest.size;
        } else {
            answer = listOf(kind).append(pad);
        }
        pad.size = 0;
        forgetLayings();
        return answer;
    }

    public int drop(int kind) {
        if (kind != WORD && kind != BARRED) {
            return OUTSIDE;
        }
        int had = listOf(kind).size;
        listOf(kind).size = 0;
        forgetLayings();
        return had;
    }

    public int fill() {
        if (pad.size != board.square.lattice.cellCount) {
            return FAULT;
        }
        int changed = 0;
        for (int cell = 0; cell < pad.size; cell++) {
            if (board.square.cells[cell] != pad.letters[cell]) {
                changed++;
            }
            board.square.cells[cell] = pad.letters[cell];
        }
        pad.size = 0;
        forgetLayings();
        return changed;
    }

    public int letter(int kind, int number, int i) {
        if (kind < WORD || kind > REST || i < HOW_MANY) {
            return OUTSIDE;
        }
        Text text = kind == REST ? board.rest : listOf(kind).find(number);
        if (text == null) {
            return UNKNOWN;
        }
        if (i == HOW_MANY) {
            return text.size;
        }
        return i < text.size ? text.letters[i] : NONE;
    }

    public int stands(int kind, int number, int i) {
        if (kind != WORD && kind != BARRED || i < HOW_MANY) {
            return OUTSIDE;
        }
        Text text = listOf(kind).find(number);
        if (text == null) {
            return UNKNOWN;
        }
        return board.square.standing(text, i);
    }

    public int put(int number, int place) {
        Text word = board.words.find(number);
        if (word == null) {
            return UNKNOWN;
        }
        if (!board.square.lattice.hasPlace(place)) {
            return OUTSIDE;
        }
        if (!board.square.accepts(word, place)) {
            return NO;
        }
        int fresh = board.square.lay(word, place);
        forgetLayings();
        return Integer.bitCount(fresh);
    }

    // ---- 2 layings

    public int fits(int number, int what) {
        Text word = board.words.find(number);
        if (word == null) {
            return UNKNOWN;
        }
        if (what != 0 && what != 1) {
            return OUTSIDE;
        }
        Lattice lattice = board.square.lattice;
        int fitting = 0;
        for (int place = 0; place < lattice.placeCount; place++) {
            if (what == 0 ? lattice.holds(place, word.size) : board.square.accepts(word, place)) {
                fitting++;
            }
        }
        return fitting;
    }

    public int most(int what) {
        boolean asksPlace = isPlaceAsked(what);
        if (!asksPlace && (what < 0 || what > 2)) {
            return OUTSIDE;
        }
        crossedSearch.look();
        if (what == 0) {
            return crossedSearch.total;
        }
        if (crossedSearch.total == 0) {
            return NONE;
        }
        if (asksPlace) {
            return crossedSearch.firstPlace(what - FIRST_PLACE_ASKED);
        }
        return what == 1 ? crossedSearch.mostCrossed : crossedSearch.withMost;
    }

    public int covers(int a, int b, int c) {
        int words = board.words.size;
        Lattice lattice = board.square.lattice;
        if (words > 0 && !lattice.hasPlace(a) || words > 1 && !lattice.hasPlace(b)
                || words > 2 && !lattice.hasPlace(c)) {
            return OUTSIDE;
        }
        trial.copyFrom(board.square);
        int covered = 0;
        for (int number = 0; number < words; number++) {
            Text word = board.words.find(number);
            int place = number == 0 ? a : number == 1 ? b : c;
            if (word == null || !trial.accepts(word, place)) {
                return NO;
            }
            trial.lay(word, place);
            covered |= lattice.cellSet(place, word.size);
        }
        return Integer.bitCount(covered);
    }

    // ---- 3 good ones

    public int good(int what) {
        boolean asksPlace = isPlaceAsked(what);
        boolean asksCell = what >= FIRST_CELL_ASKED && what < FIRST_CELL_ASKED + MOST_CELLS;
        if (what != 0 && !asksPlace && !asksCell) {
            return OUTSIDE;
        }
        goodSearch.look();
        if (what == 0) {
            return goodSearch.total;
        }
        if (goodSearch.total == 0) {
            return NONE;
        }
        if (asksPlace) {
            return goodSearch.firstPlace(what - FIRST_PLACE_ASKED);
        }
        int cell = what - FIRST_CELL_ASKED;
        return board.square.lattice.hasCell(cell) ? goodSearch.firstFilled.cells[cell] : NONE;
    }

    public int hide() {
        goodSearch.look();
        if (goodSearch.total == 0) {
            return NO;
        }
        board.square.copyFrom(goodSearch.firstFilled);
        forgetLayings();
        return goodSearch.firstFromRest;
    }

    // ---- 4 images

    public int image(int k) {
        if (k < 0 || k >= IMAGES) {
            return OUTSIDE;
        }
        images[k].copyFrom(board);
        keptImages |= 1 << k;
        return 1;
    }

    public int restore(int k) {
        if (k < 0 || k >= IMAGES) {
            return OUTSIDE;
        }
        if ((keptImages >> k & 1) == 0) {
            return STATE;
        }
        board.copyFrom(images[k]);
        forgetLayings();
        return 1;
    }

    public int count(int what) {
        switch (what) {
            case 0: return board.square.lattice.side;
            case 1: return board.words.size;
            case 2: return board.barred.size;
            case 3: return board.square.emptyCells();
            case 4: return pad.size;
            case 5: return board.square.unlikeLetters();
            case 6: return keptImages;
            default: return OUTSIDE;
        }
    }

    private static boolean isLetter(int sign) {
        return sign >= FIRST_LETTER && sign <= LAST_LETTER;
    }

    private static boolean isPlaceAsked(int what) {
        return what >= FIRST_PLACE_ASKED && what < FIRST_PLACE_ASKED + MOST_WORDS;
    }

    private TextList listOf(int kind) {
        return kind == WORD ? board.words : board.barred;
    }

    /** Searches keep what they found, so each change of the board must make them look anew. */
    private void forgetLayings() {
        crossedSearch.known = false;
        goodSearch.known = false;
    }

    /** Letters in a row that is made once and used again. */
    private static final class Text {
        final int[] letters;
        int size = 0;

        Text(int capacity) {
            letters = new int[Math.max(capacity, 1)];
        }

        void append(int sign) {
            if (size < letters.length) {
                letters[size] = sign;
                size++;
            }
        }

        void copyFrom(Text other) {
            size = Math.min(other.size, letters.length);
            System.arraycopy(other.letters, 0, letters, 0, size);
        }

        boolean isSameFromEnd() {
            for (int i = 0; i < size; i++) {
                if (letters[i] != letters[size - 1 - i]) {
                    return false;
                }
            }
            return true;
        }
    }

    /** Up to three texts, numbered as they came. */
    private static final class TextList {
        final Text[] texts = new Text[MOST_WORDS];
        int size = 0;

        TextList(int mostLetters) {
            for (int number = 0; number < MOST_WORDS; number++) {
                texts[number] = new Text(mostLetters);
            }
        }

        Text find(int number) {
            return number >= 0 && number < size && number < MOST_WORDS ? texts[number] : null;
        }

        int append(Text text) {
            if (size >= MOST_WORDS) {
                return FULL;
            }
            texts[size].copyFrom(text);
            size++;
            return size - 1;
        }

        void copyFrom(TextList other) {
            for (int number = 0; number < MOST_WORDS; number++) {
                texts[number].copyFrom(other.texts[number]);
            }
            size = other.size;
        }
    }

    /** The cells and places of a square of one side, whatever letters it has. */
    private static final class Lattice {
        final int side;
        final int cellCount;
        final int placeCount;
        /** For each way, what is added to a cell's number to get the next one's. */
        final int[] steps = new int[WAYS];
        /** For each place, how many cells lie from its cell on in its way. */
        final int[] reaches = new int[MOST_CELLS * WAYS];

        Lattice(int side) {
            this.side = side;
            cellCount = side * side;
            placeCount = cellCount * WAYS;
            for (int way = 0; way < WAYS; way++) {
                steps[way] = ROW_STEPS[way] * side + COLUMN_STEPS[way];
            }
            for (int row = 0; row < side; row++) {
                for (int column = 0; column < side; column++) {
                    measureReaches(row, column);
                }
            }
        }

        private void measureReaches(int row, int column) {
            int first = (row * side + column) * WAYS;
            for (int way = 0; way < WAYS && first + way < reaches.length; way++) {
                reaches[first + way] = Math.min(runOf(row, ROW_STEPS[way]), runOf(column, COLUMN_STEPS[way]));
            }
        }

        /** How many rows (or columns) lie from one on, that one being the first. */
        private int runOf(int line, int step) {
            if (step == 0) {
                return side;
            }
            return step > 0 ? side - line : line + 1;
        }

        boolean hasCell(int cell) {
            return cell >= 0 && cell < cellCount;
        }

        boolean hasPlace(int place) {
            return place >= 0 && place < placeCount;
        }

        boolean holds(int place, int length) {
            return hasPlace(place) && reaches[place] >= length;
        }

        /** The cells of a word of that length at a place that holds it, a bit for each. */
        int cellSet(int place, int length) {
            int set = 0;
            int cell = place / WAYS;
            for (int i = 0; i < length; i++) {
                set |= 1 << cell;
                cell += steps[place % WAYS];
            }
            return set;
        }
    }

    /** The letters of the cells. */
    private static final class Square {
        final int[] cells = new int[MOST_CELLS];
        Lattice lattice;

        Square(Lattice lattice) {
            this.lattice = lattice;
        }

        void clear(Lattice newLattice) {
            lattice = newLattice;
            Arrays.fill(cells, EMPTY);
        }

        void copyFrom(Square other) {
            lattice = other.lattice;
            System.arraycopy(other.cells, 0, cells, 0, MOST_CELLS);
        }

        /** Whether a word fits a place, with each cell there EMPTY or of the word's letter. */
        boolean accepts(Text word, int place) {
            if (!lattice.holds(place, word.size)) {
                return false;
            }
            int step = lattice.steps[place % WAYS];
            int cell = place / WAYS;
            for (int i = 0; i < word.size; i++) {
                if (cells[cell] != word.letters[i] && cells[cell] != EMPTY) {
                    return false;
                }
                cell += step;
            }
            return true;
        }

        /** Lays a word at a place that accepts it: the cells that were EMPTY, a bit for each. */
        int lay(Text word, int place) {
            int fresh = 0;
            int step = lattice.steps[place % WAYS];
            int cell = place / WAYS;
            for (int i = 0; i < word.size; i++) {
                if (cells[cell] == EMPTY) {
                    cells[cell] = word.letters[i];
                    fresh |= 1 << cell;
                }
                cell += step;
            }
            return fresh;
        }

        /** Makes the cells of a set EMPTY. */
        void lift(int set) {
            for (int cell = 0; cell < MOST_CELLS; cell++) {
                if ((set >> cell & 1) != 0) {
                    cells[cell] = EMPTY;
                }
            }
        }

        /** Gives the letters of a text to EMPTY cells, over and over: how many it gave. */
        int pour(Text rest) {
            int given = 0;
            int next = 0;
            for (int cell = 0; cell < lattice.cellCount; cell++) {
                if (cells[cell] == EMPTY) {
                    cells[cell] = rest.letters[next];
                    next = next + 1 < rest.size ? next + 1 : 0;
                    given++;
                }
            }
            return given;
        }

        /** The i-th place at which a word stands, or, by HOW_MANY, their number. */
        int standing(Text word, int i) {
            int seen = 0;
            for (int cell = 0; cell < lattice.cellCount; cell++) {
                // Most cells have another first letter: their ways need no look.
                if (cells[cell] != word.letters[0]) {
                    continue;
                }
                for (int place = cell * WAYS; place < cell * WAYS + WAYS; place++) {
                    if (showsAt(word, place)) {
                        if (seen == i) {
                            return place;
                        }
                        seen++;
                    }
                }
            }
            return i == HOW_MANY ? seen : NONE;
        }

        private boolean showsAt(Text word, int place) {
            if (lattice.reaches[place] < word.size) {
                return false;
            }
            int step = lattice.steps[place % WAYS];
            int cell = place / WAYS;
            for (int i = 0; i < word.size; i++) {
                if (cells[cell] != word.letters[i]) {
                    return false;
                }
                cell += step;
            }
            return true;
        }

        int emptyCells() {
            int empty = 0;
            for (int cell = 0; cell < lattice.cellCount; cell++) {
                if (cells[cell] == EMPTY) {
                    empty++;
                }
            }
            return empty;
        }

        int unlikeLetters() {
            int letters = 0;
            for (int cell = 0; cell < lattice.cellCount; cell++) {
                if (cells[cell] != EMPTY) {
                    letters |= 1 << cells[cell] - FIRST_LETTER;
                }
            }
            return Integer.bitCount(letters);
        }
    }

    /** All that an image keeps. */
    private static final class Board {
        final Square square;
        final TextList words = new TextList(MOST_LETTERS[WORD]);
        final TextList barred = new TextList(MOST_LETTERS[BARRED]);
        final Text rest = new Text(MOST_LETTERS[REST]);

        Board(Lattice lattice) {
            square = new Square(lattice);
            rest.append('x');
        }

        void copyFrom(Board other) {
            square.copyFrom(other.square);
            words.copyFrom(other.words);
            barred.copyFrom(other.barred);
            rest.copyFrom(other.rest);
        }
    }

    /** Goes through the layings of a board, the first one first, and keeps what it found. */
    private abstract static class Search {
        final Board board;
        /** The board's square with the words laid over it that have a place yet. */
        final Square laid;
        final int[] places = new int[MOST_WORDS];
        final int[] cellSets = new int[MOST_WORDS];
        /** The places of the laying that the search tells of. */
        final int[] firstPlaces = new int[MOST_WORDS];
        int total = 0;
        boolean known = false;

        Search(Board board) {
            this.board = board;
            laid = new Square(board.square.lattice);
        }

        /** Whether the words that are laid yet leave a laying that is looked for. */
        abstract boolean hasHope();

        /** All words are laid. */
        abstract void meetLaying();

        void look() {
            if (known) {
                return;
            }
            laid.copyFrom(board.square);
            Arrays.fill(cellSets, 0);
            total = 0;
            layFrom(this, 0);
            known = true;
        }

        private static void layFrom(Search search, int number) {
            Text word = search.board.words.find(number);
            if (word == null || number >= MOST_WORDS) {
                search.meetLaying();
                return;
            }
            if (!search.hasHope()) {
                return;
            }
            Square laid = search.laid;
            for (int place = 0; place < laid.lattice.placeCount; place++) {
                if (laid.accepts(word, place)) {
                    search.places[number] = place;
                    search.cellSets[number] = laid.lattice.cellSet(place, word.size);
                    int fresh = laid.lay(word, place);
                    layFrom(search, number + 1);
                    laid.lift(fresh);
                }
            }
        }

        void keepPlaces() {
            System.arraycopy(places, 0, firstPlaces, 0, MOST_WORDS);
        }

        int firstPlace(int number) {
            return number >= 0 && number < board.words.size && number < MOST_WORDS ? firstPlaces[number] : NONE;
        }
    }

    /** Looks for the layings that have most cells crossed. */
    private static final class CrossedSearch extends Search {
        int mostCrossed = 0;
        int withMost = 0;

        CrossedSearch(Board board) {
            super(board);
        }

        boolean hasHope() {
            return true;
        }

        void meetLaying() {
            int crossed = Integer.bitCount(cellSets[0] & cellSets[1] | cellSets[0] & cellSets[2]
                    | cellSets[1] & cellSets[2]);
            if (total == 0 || crossed > mostCrossed) {
                mostCrossed = crossed;
                withMost = 0;
                keepPlaces();
            }
            if (crossed == mostCrossed) {
                withMost++;
            }
            total++;
        }
    }

    /** Looks for the layings that are good. */
    private static final class GoodSearch extends Search {
        final Square filled;
        final Square firstFilled;
        int firstFromRest = 0;

        GoodSearch(Board board) {
            super(board);
            filled = new Square(board.square.lattice);
            firstFilled = new Square(board.square.lattice);
        }

        /** What stands in a part of the square stands there too when all is filled. */
        boolean hasHope() {
            return !isSpoiled(laid);
        }

        void meetLaying() {
            filled.copyFrom(laid);
            int fromRest = filled.pour(board.rest);
            // Each word stands where it is laid: it can only stand at too many places.
            if (isSpoiled(filled)) {
                return;
            }
            if (total == 0) {
                firstFilled.copyFrom(filled);
                firstFromRest = fromRest;
                keepPlaces();
            }
            total++;
        }

        /** Whether a barred word stands, or a word at more places than it is bound to. */
        private boolean isSpoiled(Square square) {
            for (int number = 0; number < board.barred.size && number < MOST_WORDS; number++) {
                if (square.standing(board.barred.texts[number], 0) != NONE) {
                    return true;
                }
            }
            for (int number = 0; number < board.words.size && number < MOST_WORDS; number++) {
                Text word = board.words.texts[number];
                int bound = word.isSameFromEnd() ? 2 : 1;
                // Places are numbered from 0 on: number bound is the first that is too many.
                if (square.standing(word, bound) != NONE) {
                    return true;
                }
            }
            return false;
        }
    }
}
