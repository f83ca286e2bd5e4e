/** The answers that each promise asks for, worked out by hand from the document. */
public final class PromisesTest extends Bench {
    private static int wrong = 0;

    public static void main(String[] args) {
        newObject();
        side();
        set();
        at();
        say();
        wipe();
        take();
        drop();
        fill();
        letter();
        stands();
        standsInEachWay();
        put();
        fits();
        most();
        mostOfThree();
        covers();
        good();
        goodWithSquareGiven();
        hide();
        image();
        restore();
        count();
        answersFollowChanges();
        System.out.println(wrong == 0 ? "all promises hold" : wrong + " answers are wrong");
        if (wrong != 0) {
            System.exit(1);
        }
    }

    private static void due(int promise, String call, int got, int want) {
        if (got != want) {
            wrong++;
            System.out.println("promise " + promise + ": " + call + " answered " + got + ", due is " + want);
        }
    }

    private static void square(int promise, WordHides x, String cells) {
        for (int cell = 0; cell < cells.length(); cell++) {
            due(promise, "at(" + cell + ")", x.at(cell), cells.charAt(cell) == '.' ? NONE : cells.charAt(cell));
        }
        due(promise, "at behind the last", x.at(cells.length()), UNKNOWN);
    }

    private static void text(int promise, WordHides x, int kind, int number, String letters) {
        due(promise, "letter, how many", x.letter(kind, number, -1), letters.length());
        for (int i = 0; i < letters.length(); i++) {
            due(promise, "letter " + i, x.letter(kind, number, i), letters.charAt(i));
        }
        due(promise, "letter behind", x.letter(kind, number, letters.length()), NONE);
    }

    private static void newObject() {
        WordHides x = new WordHides();
        square(1, x, "................");
        int[] counts = {4, 0, 0, 16, 0, 0, 0};
        for (int what = 0; what < counts.length; what++) {
            due(1, "count(" + what + ")", x.count(what), counts[what]);
        }
        text(1, x, 2, 0, "x");
        due(1, "letter(0, 0, -1)", x.letter(0, 0, -1), UNKNOWN);
        due(1, "letter(1, 0, -1)", x.letter(1, 0, -1), UNKNOWN);
        due(1, "restore(0)", x.restore(0), STATE);
        due(1, "restore(1)", x.restore(1), STATE);
        WordHides y = new WordHides();
        y.set(3, 'q');
        take(y, 0, "abc");
        due(1, "another object's at(3)", x.at(3), NONE);
        due(1, "another object's count(1)", x.count(1), 0);
    }

    private static void side() {
        WordHides x = new WordHides();
        paint(x, "abcdefghijklmnop");
        for (int v : new int[] {2, 5, 0, -3, LOW, HIGH}) {
            due(2, "side(" + v + ")", x.side(v), OUTSIDE);
        }
        square(2, x, "abcdefghijklmnop");
        due(2, "side(4) again", x.side(4), 4);
        square(2, x, "................");
        take(x, 0, "abc");
        take(x, 1, "de");
        take(x, 2, "fg");
        spell(x, "h");
        paint(x, "abcdefghijklmnop");
        due(2, "side(3)", x.side(3), 4);
        square(2, x, ".........");
        due(2, "count(1)", x.count(1), 1);
        due(2, "count(2)", x.count(2), 1);
        due(2, "count(3)", x.count(3), 9);
        due(2, "count(4)", x.count(4), 1);
        text(2, x, 2, 0, "fg");
        due(2, "side(3) again", x.side(3), 3);
        due(2, "side(4)", x.side(4), 3);
        square(2, x, "................");
    }

    private static void set() {
        WordHides x = new WordHides();
        due(3, "set(0, a)", x.set(0, 97), 0);
        due(3, "set(0, z)", x.set(0, 122), 97);
        due(3, "set(0, 0)", x.set(0, 0), 122);
        due(3, "set(0, 0) again", x.set(0, 0), 0);
        due(3, "set(15, b)", x.set(15, 98), 0);
        for (int cell : new int[] {-1, 16, LOW, HIGH}) {
            due(3, "set(" + cell + ", a)", x.set(cell, 97), UNKNOWN);
            due(3, "set(" + cell + ", 1): UNKNOWN first", x.set(cell, 1), UNKNOWN);
        }
        for (int letter : new int[] {96, 123, 1, -1, 65, LOW, HIGH}) {
            due(3, "set(15, " + letter + ")", x.set(15, letter), OUTSIDE);
        }
        square(3, x, "...............b");
        x.side(3);
        due(3, "side 3: set(9, a)", x.set(9, 97), UNKNOWN);
        due(3, "side 3: set(8, a)", x.set(8, 97), 0);
        square(3, x, "........a");
    }

    private static void at() {
        WordHides x = new WordHides();
        paint(x, "a..............z");
        due(4, "at(0)", x.at(0), 97);
        due(4, "at(1)", x.at(1), NONE);
        due(4, "at(15)", x.at(15), 122);
        for (int cell : new int[] {-1, 16, LOW, HIGH}) {
            due(4, "at(" + cell + ")", x.at(cell), UNKNOWN);
        }
        x.side(3);
        due(4, "side 3: at(8)", x.at(8), NONE);
        due(4, "side 3: at(9)", x.at(9), UNKNOWN);
    }

    private static void say() {
        WordHides x = new WordHides();
        for (int sign : new int[] {96, 123, 0, -1, 65, LOW, HIGH}) {
            due(5, "say(" + sign + ")", x.say(sign), OUTSIDE);
        }
        for (int i = 1; i <= 16; i++) {
            due(5, "say, number " + i, x.say(i % 2 == 0 ? 97 : 122), i);
        }
        due(5, "say, number 17", x.say(97), FULL);
        due(5, "say, number 17, no letter", x.say(96), OUTSIDE);
        due(5, "count(4)", x.count(4), 16);
        due(5, "fill()", x.fill(), 16);
        square(5, x, "zazazazazazazaza");
    }

    private static void wipe() {
        WordHides x = new WordHides();
        due(6, "wipe(), empty", x.wipe(), 0);
        spell(x, "abcde");
        due(6, "wipe()", x.wipe(), 5);
        due(6, "count(4)", x.count(4), 0);
        due(6, "wipe() again", x.wipe(), 0);
        due(6, "take behind it", take(x, 0, "xyz"), 0);
        text(6, x, 0, 0, "xyz");
    }

    private static void take() {
        WordHides x = new WordHides();
        int[][] lengths = {{3, 4}, {2, 4}, {1, 9}};
        for (int kind = 0; kind < 3; kind++) {
            for (int length = 0; length <= 16; length++) {
                WordHides y = new WordHides();
                spell(y, "abcdefghijklmnop".substring(0, length));
                boolean fits = length >= lengths[kind][0] && length <= lengths[kind][1];
                due(7, "take(" + kind + ") of " + length, y.take(kind), !fits ? FAULT : kind == 2 ? length : 0);
                due(7, "count(4) of " + length, y.count(4), fits ? 0 : length);
            }
        }
        spell(x, "abc");
        for (int kind : new int[] {-1, 3, LOW, HIGH}) {
            due(7, "take(" + kind + ")", x.take(kind), OUTSIDE);
        }
        due(7, "count(4)", x.count(4), 3);
        due(7, "take(0)", x.take(0), 0);
        due(7, "an alike word", take(x, 0, "abc"), 1);
        due(7, "a third word", take(x, 0, "defg"), 2);
        spell(x, "hij");
        due(7, "a fourth word", x.take(0), FULL);
        due(7, "a barred word", x.take(1), 0);
        due(7, "a short fourth word: FAULT first", take(x, 0, "kl"), FAULT);
        due(7, "barred word 1", x.take(1), 1);
        due(7, "barred word 2", take(x, 1, "mnop"), 2);
        spell(x, "qr");
        due(7, "a fourth barred word", x.take(1), FULL);
        due(7, "count(4)", x.count(4), 2);
        due(7, "the rest", x.take(2), 2);
        text(7, x, 0, 0, "abc");
        text(7, x, 0, 1, "abc");
        text(7, x, 0, 2, "defg");
        text(7, x, 1, 0, "hij");
        text(7, x, 1, 1, "kl");
        text(7, x, 1, 2, "mnop");
        text(7, x, 2, 0, "qr");
        due(7, "a longer rest", take(x, 2, "abcdefghi"), 9);
        text(7, x, 2, 0, "abcdefghi");
        due(7, "a shorter rest", take(x, 2, "z"), 1);
        text(7, x, 2, 0, "z");
    }

    private static void drop() {
        WordHides x = new WordHides();
        due(8, "drop(0), none", x.drop(0), 0);
        due(8, "drop(1), none", x.drop(1), 0);
        take(x, 0, "abc");
        take(x, 0, "abcd");
        take(x, 1, "ef");
        take(x, 2, "gh");
        for (int kind : new int[] {-1, 2, 3, LOW, HIGH}) {
            due(8, "drop(" + kind + ")", x.drop(kind), OUTSIDE);
        }
        spell(x, "i");
        due(8, "drop(0)", x.drop(0), 2);
        due(8, "count(1)", x.count(1), 0);
        due(8, "count(2)", x.count(2), 1);
        due(8, "count(4)", x.count(4), 1);
        due(8, "letter(0, 0, 0)", x.letter(0, 0, 0), UNKNOWN);
        due(8, "drop(0) again", x.drop(0), 0);
        due(8, "drop(1)", x.drop(1), 1);
        due(8, "count(2)", x.count(2), 0);
        text(8, x, 2, 0, "gh");
        x.wipe();
        due(8, "a word behind it", take(x, 0, "xyz"), 0);
        text(8, x, 0, 0, "xyz");
    }

    private static void fill() {
        WordHides x = new WordHides();
        due(9, "fill(), empty", x.fill(), FAULT);
        spell(x, "abcdefghijklmno");
        due(9, "fill() of 15", x.fill(), FAULT);
        due(9, "count(4)", x.count(4), 15);
        square(9, x, "................");
        x.say('p');
        x.set(0, 'a');
        x.set(1, 'z');
        due(9, "fill() of 16", x.fill(), 15);
        due(9, "count(4)", x.count(4), 0);
        square(9, x, "abcdefghijklmnop");
        spell(x, "abcdefghijklmnop");
        due(9, "fill(), alike", x.fill(), 0);
        x.side(3);
        spell(x, "abcdefghi");
        due(9, "side 3: fill() of 9", x.fill(), 9);
        square(9, x, "abcdefghi");
        spell(x, "jjjjjjjjjj");
        due(9, "side 3: fill() of 10", x.fill(), FAULT);
        square(9, x, "abcdefghi");
    }

    private static void letter() {
        WordHides x = new WordHides();
        take(x, 0, "abcd");
        take(x, 0, "efg");
        take(x, 1, "hi");
        take(x, 2, "jkl");
        text(10, x, 0, 0, "abcd");
        text(10, x, 0, 1, "efg");
        text(10, x, 1, 0, "hi");
        for (int number : new int[] {0, 1, 7, -1, LOW, HIGH}) {
            text(10, x, 2, number, "jkl");
        }
        due(10, "letter(0, 0, HIGH)", x.letter(0, 0, HIGH), NONE);
        due(10, "letter(2, 0, HIGH)", x.letter(2, 0, HIGH), NONE);
        for (int number : new int[] {-1, 2, LOW, HIGH}) {
            due(10, "letter(0, " + number + ", 0)", x.letter(0, number, 0), UNKNOWN);
            due(10, "letter(0, " + number + ", 9)", x.letter(0, number, 9), UNKNOWN);
            due(10, "letter(0, " + number + ", -2): OUTSIDE first", x.letter(0, number, -2), OUTSIDE);
            due(10, "letter(3, " + number + ", 0): OUTSIDE first", x.letter(3, number, 0), OUTSIDE);
        }
        due(10, "letter(1, 1, 0)", x.letter(1, 1, 0), UNKNOWN);
        due(10, "letter(-1, 0, 0)", x.letter(-1, 0, 0), OUTSIDE);
        due(10, "letter(HIGH, 0, 0)", x.letter(HIGH, 0, 0), OUTSIDE);
        due(10, "letter(0, 0, LOW)", x.letter(0, 0, LOW), OUTSIDE);
    }

    private static void stands() {
        WordHides x = new WordHides();
        due(11, "stands(0, 0, -1)", x.stands(0, 0, -1), UNKNOWN);
        take(x, 0, "aba");
        take(x, 0, "abac");
        take(x, 1, "ab");
        paint(x, "abac............");
        due(11, "aba: how many", x.stands(0, 0, -1), 2);
        due(11, "aba: first", x.stands(0, 0, 0), 0);
        due(11, "aba: second", x.stands(0, 0, 1), 2 * 8 + 4);
        due(11, "aba: third", x.stands(0, 0, 2), NONE);
        due(11, "aba: far", x.stands(0, 0, HIGH), NONE);
        due(11, "abac: how many", x.stands(0, 1, -1), 1);
        due(11, "ab: how many", x.stands(1, 0, -1), 2);
        due(11, "ab: second", x.stands(1, 0, 1), 2 * 8 + 4);
        paint(x, "ac.ab...........");
        due(11, "over the edge: aba", x.stands(0, 0, -1), 0);
        due(11, "over the edge: ab", x.stands(1, 0, -1), 1);
        paint(x, "ab.a............");
        due(11, "an EMPTY cell is no letter", x.stands(0, 0, -1), 0);
        due(11, "none: first", x.stands(0, 0, 0), NONE);
        for (int kind : new int[] {-1, 2, LOW, HIGH}) {
            due(11, "stands(" + kind + ", 0, 0)", x.stands(kind, 0, 0), OUTSIDE);
        }
        due(11, "stands(0, 9, -2): OUTSIDE first", x.stands(0, 9, -2), OUTSIDE);
        due(11, "stands(0, 0, LOW)", x.stands(0, 0, LOW), OUTSIDE);
        for (int number : new int[] {-1, 2, LOW, HIGH}) {
            due(11, "stands(0, " + number + ", 0)", x.stands(0, number, 0), UNKNOWN);
        }
        due(11, "stands(1, 1, -1)", x.stands(1, 1, -1), UNKNOWN);
        x.side(3);
        paint(x, "aba......");
        due(11, "side 3: aba", x.stands(0, 0, -1), 2);
        due(11, "side 3: aba, second", x.stands(0, 0, 1), 2 * 8 + 4);
        due(11, "side 3: abac", x.stands(0, 1, -1), 0);
    }

    private static void standsInEachWay() {
        String[] squares = {
            ".....abc........", "a....b....c.....", ".a...b...c......", "..a..b..c.......",
            "....cba.........", "c....b....a.....", ".c...b...a......", "..c..b..a......."};
        int[] cells = {5, 0, 1, 2, 6, 10, 9, 8};
        for (int way = 0; way < 8; way++) {
            WordHides x = new WordHides();
            take(x, 0, "abc");
            paint(x, squares[way]);
            due(11, "way " + way + ": how many", x.stands(0, 0, -1), 1);
            due(11, "way " + way + ": where", x.stands(0, 0, 0), cells[way] * 8 + way);
            paint(x, "................");
            due(12, "way " + way + ": put", x.put(0, cells[way] * 8 + way), 3);
            square(12, x, squares[way]);
        }
    }

    private static void put() {
        WordHides x = new WordHides();
        due(12, "put(0, 0)", x.put(0, 0), UNKNOWN);
        take(x, 0, "cat");
        take(x, 0, "taco");
        for (int number : new int[] {-1, 2, LOW, HIGH}) {
            due(12, "put(" + number + ", 0)", x.put(number, 0), UNKNOWN);
            due(12, "put(" + number + ", -1): UNKNOWN first", x.put(number, -1), UNKNOWN);
        }
        for (int place : new int[] {-1, 128, LOW, HIGH}) {
            due(12, "put(0, " + place + ")", x.put(0, place), OUTSIDE);
        }
        due(12, "put over the edge", x.put(0, 2 * 8), NO);
        due(12, "put over the last cell", x.put(0, 127), NO);
        due(12, "count(3)", x.count(3), 16);
        due(12, "put(0, 8)", x.put(0, 1 * 8), 3);
        square(12, x, ".cat............");
        due(12, "put(0, 8) again", x.put(0, 1 * 8), 0);
        due(12, "put across a letter", x.put(1, 3 * 8 + 2), 3);
        square(12, x, ".cat...a...c...o");
        due(12, "put over another letter", x.put(1, 0), NO);
        square(12, x, ".cat...a...c...o");
        x.side(3);
        due(12, "side 3: put(0, 72)", x.put(0, 72), OUTSIDE);
        due(12, "side 3: put(1, 0)", x.put(1, 0), NO);
        due(12, "side 3: put(0, 8 * 8 + 5)", x.put(0, 8 * 8 + 5), 3);
        square(12, x, "t...a...c");
    }

    private static void fits() {
        WordHides x = new WordHides();
        due(13, "fits(0, 0)", x.fits(0, 0), UNKNOWN);
        due(13, "fits(0, 2): UNKNOWN first", x.fits(0, 2), UNKNOWN);
        take(x, 0, "cat");
        take(x, 0, "taco");
        due(13, "fits(0, 0)", x.fits(0, 0), 48);
        due(13, "fits(0, 1)", x.fits(0, 1), 48);
        due(13, "fits(1, 0)", x.fits(1, 0), 20);
        due(13, "fits(1, 1)", x.fits(1, 1), 20);
        for (int what : new int[] {-1, 2, LOW, HIGH}) {
            due(13, "fits(0, " + what + ")", x.fits(0, what), OUTSIDE);
        }
        for (int number : new int[] {-1, 2, LOW, HIGH}) {
            due(13, "fits(" + number + ", 0)", x.fits(number, 0), UNKNOWN);
        }
        x.set(0, 'z');
        due(13, "z at 0: fits(0, 0)", x.fits(0, 0), 48);
        // A corner is the first cell of three places of a word, and the last one of three.
        due(13, "z at 0: fits(0, 1)", x.fits(0, 1), 42);
        due(13, "z at 0: fits(1, 1)", x.fits(1, 1), 14);
        x.set(0, 'c');
        due(13, "c at 0: fits(0, 1)", x.fits(0, 1), 45);
        due(13, "c at 0: fits(1, 1)", x.fits(1, 1), 14);
        x.side(3);
        due(13, "side 3: fits(0, 0)", x.fits(0, 0), 16);
        due(13, "side 3: fits(0, 1)", x.fits(0, 1), 16);
        due(13, "side 3: fits(1, 0)", x.fits(1, 0), 0);
        due(13, "side 3: fits(1, 1)", x.fits(1, 1), 0);
        x.set(4, 'z');
        due(13, "side 3, z amid: fits(0, 1)", x.fits(0, 1), 8);
    }

    private static void most() {
        WordHides x = new WordHides();
        int[] none = {1, 0, 1};
        for (int what = 0; what < 3; what++) {
            due(14, "no words: most(" + what + ")", x.most(what), none[what]);
        }
        due(14, "no words: most(10)", x.most(10), NONE);
        for (int what : new int[] {-1, 3, 9, 13, 100, LOW, HIGH}) {
            due(14, "most(" + what + ")", x.most(what), OUTSIDE);
        }
        x.side(3);
        take(x, 0, "abc");
        due(14, "one word: most(0)", x.most(0), 16);
        due(14, "one word: most(1)", x.most(1), 0);
        due(14, "one word: most(2)", x.most(2), 16);
        due(14, "one word: most(10)", x.most(10), 0);
        due(14, "one word: most(11)", x.most(11), NONE);
        due(14, "one word: most(12)", x.most(12), NONE);
        x.set(0, 'z');
        // Row 0, column 0 and the diagonal are shut: the next place is cell 1 downwards.
        due(14, "z at 0: most(0)", x.most(0), 10);
        due(14, "z at 0: most(10)", x.most(10), 1 * 8 + 2);
        x.set(0, 0);
        take(x, 0, "dbe");
        // The words share b: two of the four lines through the middle, each from either end; or
        // they lie side by side, two of three rows or of three columns.
        due(14, "abc, dbe: most(0)", x.most(0), 48 + 48);
        due(14, "abc, dbe: most(1)", x.most(1), 1);
        due(14, "abc, dbe: most(2)", x.most(2), 48);
        due(14, "abc, dbe: most(10)", x.most(10), 1);
        due(14, "abc, dbe: most(11)", x.most(11), 1 * 8 + 2);
        due(14, "abc, dbe: most(12)", x.most(12), NONE);
        take(x, 0, "abcd");
        for (int what : new int[] {1, 2, 10, 11, 12}) {
            due(14, "no laying: most(" + what + ")", x.most(what), NONE);
        }
        due(14, "no laying: most(0)", x.most(0), 0);
        due(14, "no laying: most(3)", x.most(3), OUTSIDE);
    }

    /** Three words in a chain: cde lies along an edge or a diagonal, its neighbours side by side. */
    private static WordHides chain() {
        WordHides x = new WordHides();
        x.side(3);
        take(x, 0, "abc");
        take(x, 0, "cde");
        take(x, 0, "efg");
        return x;
    }

    private static void mostOfThree() {
        WordHides x = chain();
        due(14, "chain: most(1)", x.most(1), 2);
        due(14, "chain: most(2)", x.most(2), 16);
        due(14, "chain: most(10)", x.most(10), 0);
        due(14, "chain: most(11)", x.most(11), 2 * 8 + 2);
        due(14, "chain: most(12)", x.most(12), 8 * 8 + 4);
        paint(x, "abc.zdefg");
        due(14, "cde shut out: most(0)", x.most(0), 0);
        // Here the words stand already, and their places are the only ones left for them.
        paint(x, "abc..dgfe");
        due(14, "chain that stands: most(0)", x.most(0), 1);
        due(14, "chain that stands: most(1)", x.most(1), 2);
        due(14, "chain that stands: most(2)", x.most(2), 1);
        due(14, "chain that stands: most(12)", x.most(12), 8 * 8 + 4);
        WordHides y = new WordHides();
        y.side(3);
        take(y, 0, "abc");
        take(y, 0, "abc");
        due(14, "alike: most(1)", y.most(1), 3);
        due(14, "alike: most(2)", y.most(2), 16);
        due(14, "alike: most(10)", y.most(10), 0);
        due(14, "alike: most(11)", y.most(11), 0);
        take(y, 0, "abc");
        due(14, "thrice alike: a cell crossed thrice is one", y.most(1), 3);
    }

    private static void covers() {
        WordHides x = new WordHides();
        due(15, "no words", x.covers(LOW, HIGH, -1), 0);
        x.side(3);
        take(x, 0, "abc");
        due(15, "one word", x.covers(0, -1, 72), 3);
        due(15, "one word, no such place", x.covers(72, 0, 0), OUTSIDE);
        due(15, "one word, no such place", x.covers(-1, 0, 0), OUTSIDE);
        due(15, "one word, over the edge", x.covers(8, 0, 0), NO);
        take(x, 0, "cde");
        due(15, "two words", x.covers(0, 18, HIGH), 5);
        due(15, "two words, side by side", x.covers(0, 24, LOW), 6);
        due(15, "two words, no such place", x.covers(0, 72, 0), OUTSIDE);
        due(15, "two words, unlike letters", x.covers(0, 0, 0), NO);
        take(x, 0, "efg");
        due(15, "chain", x.covers(0, 18, 68), 7);
        due(15, "chain, no such place", x.covers(0, 18, 72), OUTSIDE);
        due(15, "chain, no such place", x.covers(0, 18, LOW), OUTSIDE);
        due(15, "OUTSIDE first", x.covers(8, 18, 72), OUTSIDE);
        due(15, "the first and the last unlike", x.covers(0, 18, 69), NO);
        due(15, "the last two unlike", x.covers(0, 18, 48), NO);
        square(15, x, ".........");
        x.set(4, 'z');
        due(15, "z amid", x.covers(0, 18, 68), 7);
        due(15, "z amid, over it", x.covers(0, 18, 69), NO);
        x.set(0, 'a');
        due(15, "a at 0", x.covers(0, 18, 68), 7);
        x.set(0, 'b');
        due(15, "b at 0", x.covers(0, 18, 68), NO);
        x.side(4);
        due(15, "side 4: last place", x.covers(0, 127, 0), NO);
        due(15, "side 4: behind it", x.covers(0, 128, 0), OUTSIDE);
        due(15, "side 4", x.covers(0, 32, 64), 9);
    }

    private static void filled(WordHides x, String cells) {
        for (int i = 0; i < 16; i++) {
            due(16, "good(" + (100 + i) + ")", x.good(100 + i), i < cells.length() ? cells.charAt(i) : NONE);
        }
    }

    private static void good() {
        WordHides x = new WordHides();
        x.side(3);
        due(16, "no words: good(0)", x.good(0), 1);
        due(16, "no words: good(10)", x.good(10), NONE);
        filled(x, "xxxxxxxxx");
        for (int what : new int[] {-1, 1, 9, 13, 99, 116, LOW, HIGH}) {
            due(16, "good(" + what + ")", x.good(what), OUTSIDE);
        }
        take(x, 2, "pqrs");
        filled(x, "pqrspqrsp");
        take(x, 0, "abc");
        take(x, 2, "de");
        due(16, "abc: good(0)", x.good(0), 16);
        due(16, "abc: good(10)", x.good(10), 0);
        due(16, "abc: good(11)", x.good(11), NONE);
        due(16, "abc: good(12)", x.good(12), NONE);
        filled(x, "abcdedede");
        take(x, 1, "cde");
        due(16, "barred cde: good(0) leaves some", x.good(0) > 0 ? 1 : 0, 1);
        take(x, 2, "x");
        due(16, "barred cde, rest x: good(0)", x.good(0), 16);
        take(x, 1, "cx");
        due(16, "barred cx: good(0)", x.good(0), 0);
        due(16, "barred cx: good(10)", x.good(10), NONE);
        due(16, "barred cx: good(100)", x.good(100), NONE);
        due(16, "barred cx: good(115)", x.good(115), NONE);
        due(16, "barred cx: good(1)", x.good(1), OUTSIDE);
        x.drop(1);
        take(x, 1, "xc");
        due(16, "barred xc: good(0)", x.good(0), 0);
        x.drop(1);
        take(x, 1, "xxxx");
        due(16, "a barred word that is too long: good(0)", x.good(0), 16);
        x.drop(1);
        take(x, 1, "abc");
        due(16, "the word itself barred: good(0)", x.good(0), 0);
        x.drop(1);
        take(x, 0, "abc");
        due(16, "alike words lie at one place: good(0)", x.good(0), 16);
        due(16, "alike words: good(11)", x.good(11), 0);
        x.drop(0);
        take(x, 0, "xax");
        // With a amid, xax stands in four lines; not so at the edges' middles.
        due(16, "xax: good(0)", x.good(0), 8);
        take(x, 1, "xxx");
        due(16, "xax, xxx barred: good(0)", x.good(0), 0);
        x.drop(0);
        take(x, 0, "abcd");
        due(16, "no laying: good(0)", x.good(0), 0);
        due(16, "no laying: good(10)", x.good(10), NONE);
        x.side(4);
        x.drop(1);
        take(x, 2, "efghijklm");
        due(16, "side 4: good(0)", x.good(0), 20);
        filled(x, "abcdefghijklmefg");
    }

    private static void goodWithSquareGiven() {
        WordHides x = new WordHides();
        x.side(3);
        take(x, 0, "abc");
        paint(x, "abc......");
        due(16, "abc stands: good(0)", x.good(0), 1);
        due(16, "abc stands: good(10)", x.good(10), 0);
        filled(x, "abcxxxxxx");
        paint(x, "abc...cba");
        due(16, "abc stands twice: good(0)", x.good(0), 0);
        paint(x, "z........");
        due(16, "z at 0: good(0)", x.good(0), 10);
        due(16, "z at 0: good(10)", x.good(10), 1 * 8 + 2);
        filled(x, "zaxxbxxcx");
        take(x, 1, "zz");
        paint(x, "zz.......");
        due(16, "a barred word stands already: good(0)", x.good(0), 0);
        due(16, "a barred word is no matter for layings", x.most(0) > 0 ? 1 : 0, 1);
        paint(x, ".........");
        // At place 0 the rest makes abc of the other rows, at place 1 cba of the middle one.
        take(x, 2, "abc");
        due(16, "rest abc: good(10)", x.good(10), 2);
        filled(x, "aabbcacbc");
    }

    private static void hide() {
        WordHides x = new WordHides();
        x.side(3);
        take(x, 0, "abc");
        take(x, 2, "de");
        spell(x, "pq");
        due(17, "hide()", x.hide(), 6);
        square(17, x, "abcdedede");
        due(17, "count(4)", x.count(4), 2);
        due(17, "count(1)", x.count(1), 1);
        text(17, x, 2, 0, "de");
        due(17, "hide() again", x.hide(), 0);
        square(17, x, "abcdedede");
        x.wipe();
        paint(x, "z........");
        due(17, "z at 0: hide()", x.hide(), 5);
        square(17, x, "zadebdecd");
        paint(x, "z.......z");
        take(x, 1, "zd");
        due(17, "zd barred: hide()", x.hide(), NO);
        square(17, x, "z.......z");
        x.drop(0);
        x.drop(1);
        due(17, "no words: hide()", x.hide(), 7);
        square(17, x, "zdedededz");
        x.side(4);
        take(x, 0, "abcd");
        take(x, 0, "efgh");
        take(x, 2, "x");
        due(17, "side 4: hide()", x.hide(), 8);
        square(17, x, "abcdefghxxxxxxxx");
    }

    private static void image() {
        WordHides x = new WordHides();
        for (int k : new int[] {-1, 2, LOW, HIGH}) {
            due(18, "image(" + k + ")", x.image(k), OUTSIDE);
        }
        due(18, "count(6)", x.count(6), 0);
        paint(x, "abcdefghijklmnop");
        due(18, "image(1)", x.image(1), 1);
        due(18, "count(6)", x.count(6), 2);
        due(18, "restore(0)", x.restore(0), STATE);
        x.set(0, 'z');
        due(18, "image(0)", x.image(0), 1);
        due(18, "count(6)", x.count(6), 3);
        x.set(1, 'z');
        x.restore(1);
        square(18, x, "abcdefghijklmnop");
        x.restore(0);
        square(18, x, "zbcdefghijklmnop");
        x.set(2, 'z');
        due(18, "image(0) again", x.image(0), 1);
        x.side(3);
        x.restore(0);
        square(18, x, "zbzdefghijklmnop");
        x.restore(1);
        square(18, x, "abcdefghijklmnop");
    }

    private static void restore() {
        WordHides x = new WordHides();
        for (int k : new int[] {-1, 2, LOW, HIGH}) {
            due(19, "restore(" + k + ")", x.restore(k), OUTSIDE);
        }
        due(19, "restore(0)", x.restore(0), STATE);
        x.side(3);
        paint(x, "ab......c");
        take(x, 0, "abc");
        take(x, 0, "defg");
        take(x, 1, "hi");
        take(x, 2, "jkl");
        spell(x, "mn");
        x.image(0);
        spell(x, "o");
        x.side(4);
        x.drop(0);
        x.drop(1);
        x.wipe();
        take(x, 0, "zzzz");
        take(x, 1, "yyy");
        take(x, 1, "yyyy");
        take(x, 2, "qqqqqqqqq");
        spell(x, "rst");
        due(19, "restore(1)", x.restore(1), STATE);
        for (int time = 0; time < 2; time++) {
            due(19, "restore(0)", x.restore(0), 1);
            square(19, x, "ab......c");
            due(19, "count(0)", x.count(0), 3);
            due(19, "count(1)", x.count(1), 2);
            due(19, "count(2)", x.count(2), 1);
            due(19, "count(4)", x.count(4), 3);
            due(19, "count(6)", x.count(6), 1);
            text(19, x, 0, 0, "abc");
            text(19, x, 0, 1, "defg");
            text(19, x, 1, 0, "hi");
            text(19, x, 2, 0, "jkl");
            // What is changed behind it must leave the image as it was.
            x.wipe();
            paint(x, "zzzzzzzzz");
            take(x, 0, "vvv");
            take(x, 1, "ww");
            take(x, 2, "u");
            spell(x, "rst");
        }
    }

    private static void count() {
        WordHides x = new WordHides();
        for (int what : new int[] {-1, 7, LOW, HIGH}) {
            due(20, "count(" + what + ")", x.count(what), OUTSIDE);
        }
        x.side(3);
        paint(x, "aza.mm..b");
        take(x, 0, "abc");
        take(x, 0, "abc");
        take(x, 1, "de");
        spell(x, "hello");
        x.image(1);
        int[] counts = {3, 2, 1, 3, 5, 4, 2};
        for (int what = 0; what < counts.length; what++) {
            due(20, "count(" + what + ")", x.count(what), counts[what]);
        }
        x.side(4);
        due(20, "side 4: count(0)", x.count(0), 4);
        due(20, "side 4: count(3)", x.count(3), 16);
        due(20, "side 4: count(5)", x.count(5), 0);
        paint(x, "abcdefghijklmnoz");
        due(20, "full: count(3)", x.count(3), 0);
        due(20, "full: count(5)", x.count(5), 16);
    }

    private static void layings(String when, WordHides x, int layings, int good) {
        due(14, when + ": most(0)", x.most(0), layings);
        due(16, when + ": good(0)", x.good(0), good);
    }

    /** What has been told once must not be told again when things have changed. */
    private static void answersFollowChanges() {
        WordHides x = new WordHides();
        layings("new", x, 1, 1);
        take(x, 0, "abcd");
        layings("a word", x, 20, 20);
        x.image(0);
        x.side(3);
        layings("side 3", x, 0, 0);
        x.side(4);
        layings("side 4", x, 20, 20);
        x.set(0, 'z');
        layings("z at 0", x, 14, 14);
        take(x, 1, "xx");
        layings("xx barred", x, 14, 0);
        take(x, 2, "ef");
        layings("rest ef", x, 14, 14);
        take(x, 2, "x");
        x.drop(1);
        layings("nothing barred", x, 14, 14);
        x.put(0, 4 * 8);
        // Row 1 has it: the two other rows are free, each column and diagonal crosses row 1.
        due(16, "put: good(0)", x.good(0), 1);
        due(16, "put: good(10)", x.good(10), 4 * 8);
        x.restore(0);
        layings("restored", x, 20, 20);
        x.hide();
        due(16, "hidden: good(0)", x.good(0), 1);
        due(14, "hidden: most(0)", x.most(0), 1);
        spell(x, "zzzzzzzzzzzzabcd");
        x.fill();
        layings("filled", x, 1, 1);
        due(16, "filled: good(10)", x.good(10), 12 * 8);
        x.drop(0);
        layings("no words", x, 1, 1);
        due(14, "no words: most(10)", x.most(10), NONE);
    }
}
