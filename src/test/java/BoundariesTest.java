import java.io.IOException;

/**
 * A test for each sentence of the document that names a boundary case; the sentence stands ahead of it.
 * Given the document's path, it also looks whether the sentences are the document's.
 */
public final class BoundariesTest extends Bench {
    private static final int[][] WAYS = {{0, 1}, {1, 1}, {1, 0}, {1, -1}, {0, -1}, {-1, -1}, {-1, 0}, {-1, 1}};

    public static void main(String[] args) throws IOException {
        lastCall();
        termsOfRefusals();
        termsOfSquare();
        termsOfWords();
        termsOfPlaces();
        termsOfLayings();
        termsOfGoodOnes();
        newObject();
        side();
        set();
        at();
        say();
        wipe();
        take();
        drop();
        fill();
        letter();
        stands();
        put();
        fits();
        most();
        covers();
        good();
        hide();
        image();
        restore();
        count();
        end(args);
    }

    private static void lastCall() {
        about("What it is", "An object is used for at most 512 calls after it has been made");
        WordHides x = new WordHides();
        take(x, 0, "abc");
        for (int call = 5; call < 512; call++) {
            x.set(0, call % 2 == 0 ? 0 : 'z');
        }
        // The corner is the first cell of three places and the last one of three, of 48.
        due("the 512th call, most(0)", x.most(0), 42);
    }

    // ---- Terms

    private static void termsOfRefusals() {
        about("Terms", "Calls that are refused answer the first that fits, in the order in which they are told with"
                + " the call");
        WordHides x = withWords(4, "abc", "abc", "abc");
        spell(x, SIXTEEN);
        due("set(16, 96)", x.set(16, 96), UNKNOWN);
        due("say(96), 16 signs", x.say(96), OUTSIDE);
        due("take(3), 16 signs", x.take(3), OUTSIDE);
        due("take(0), 16 signs, 3 words", x.take(0), FAULT);
        due("letter(3, 3, 0)", x.letter(3, 3, 0), OUTSIDE);
        due("letter(0, 3, -2)", x.letter(0, 3, -2), OUTSIDE);
        due("stands(2, 3, 0)", x.stands(2, 3, 0), OUTSIDE);
        due("stands(0, 3, -2)", x.stands(0, 3, -2), OUTSIDE);
        due("put(3, 128)", x.put(3, 128), UNKNOWN);
        due("fits(3, 2)", x.fits(3, 2), UNKNOWN);
        due("covers, the first does not fit, the last is none", x.covers(place(2, 0), 0, 128), OUTSIDE);
        due("covers, the first does not fit, the second is none", x.covers(place(2, 0), -1, 0), OUTSIDE);
        due("restore(2)", x.restore(2), OUTSIDE);

        about("Terms", "NONE -6 is answered only where no refusal fits.");
        WordHides y = withWords(3, "abcd");
        due("at(9)", y.at(9), UNKNOWN);
        due("letter(0, 1, 4)", y.letter(0, 1, 4), UNKNOWN);
        due("letter(2, 0, -2)", y.letter(2, 0, -2), OUTSIDE);
        due("stands(0, 1, 0)", y.stands(0, 1, 0), UNKNOWN);
        due("stands(0, 0, -2)", y.stands(0, 0, -2), OUTSIDE);
        due("most(3), no laying", y.most(3), OUTSIDE);
        due("most(13), no laying", y.most(13), OUTSIDE);
        due("good(1), none good", y.good(1), OUTSIDE);
        due("good(13), none good", y.good(13), OUTSIDE);
        due("good(116), none good", y.good(116), OUTSIDE);

        about("Terms", "Letters are told by their codes, 97 (a) to 122 (z).");
        for (int letter = 97; letter <= 122; letter++) {
            WordHides z = new WordHides();
            due("set(0, " + letter + ")", z.set(0, letter), 0);
            due("at(0)", z.at(0), letter);
            due("say(" + letter + ")", z.say(letter), 1);
            due("take(2)", z.take(2), 1);
            due("letter(2, 0, 0)", z.letter(2, 0, 0), letter);
            due("good(101)", z.good(101), letter);
        }
        for (int letter : new int[] {96, 123, 65, 90, 97 - 256, 97 + 256, 97 + 65536}) {
            due("set(0, " + letter + ")", new WordHides().set(0, letter), OUTSIDE);
            due("say(" + letter + ")", new WordHides().say(letter), OUTSIDE);
        }
    }

    private static void termsOfSquare() {
        about("Terms 1", "THE SQUARE has SIDE (3 or 4; 4 at first) rows of as many CELLS, numbered row by row from 0 on");
        due("count(0)", new WordHides().count(0), 4);
        for (int side = 3; side <= 4; side++) {
            WordHides x = withWords(side, "abc");
            due("at(-1)", x.at(-1), UNKNOWN);
            due("at(0)", x.at(0), NONE);
            due("at, last", x.at(side * side - 1), NONE);
            due("at, behind the last", x.at(side * side), UNKNOWN);
            x.put(0, place(side, 0));
            same("row 1", cells(x), ".".repeat(side) + "abc" + ".".repeat(side * side - side - 3));
            x.side(side);
            x.put(0, place(0, 2));
            String gap = ".".repeat(side - 1);
            same("column 0", cells(x), ("a" + gap + "b" + gap + "c" + gap + "....").substring(0, side * side));
        }

        about("Terms 1", "each has a letter, or is EMPTY (all are at first)");
        same("a new object", cells(new WordHides()), "................");

        about("Terms 1", "WAYS are 0 to 7, from a CELL to the next one: 0 a column more; 1 a column and a row more;"
                + " 2 a row more; 3 a column less, a row more; 4 a column less; 5 a column and a row less;"
                + " 6 a row less; 7 a column more, a row less.");
        for (int side = 3; side <= 4; side++) {
            for (int cell = 0; cell < side * side; cell++) {
                for (int way = 0; way < 8; way++) {
                    eachPlace(side, cell, way, "abc");
                    eachPlace(side, cell, way, "abcd");
                }
            }
        }
    }

    /** A word laid at a place lies where rows and columns tell, and nowhere beyond an edge. */
    private static void eachPlace(int side, int cell, int way, String word) {
        StringBuilder laid = new StringBuilder(".".repeat(side * side));
        int row = cell / side;
        int column = cell % side;
        boolean fits = true;
        for (int i = 0; i < word.length(); i++) {
            fits = fits && row >= 0 && row < side && column >= 0 && column < side;
            if (fits) {
                laid.setCharAt(row * side + column, word.charAt(i));
            }
            row += WAYS[way][0];
            column += WAYS[way][1];
        }
        String name = "side " + side + ", " + word + " at cell " + cell + ", way " + way;
        WordHides x = withWords(side, word);
        due(name + ": covers", x.covers(place(cell, way), 0, 0), fits ? word.length() : NO);
        due(name + ": put", x.put(0, place(cell, way)), fits ? word.length() : NO);
        same(name + ": cells", cells(x), fits ? laid.toString() : ".".repeat(side * side));
        same(name + ": stands", standing(x, 0, 0), fits ? "[" + place(cell, way) + "]" : "[]");
    }

    private static void termsOfWords() {
        about("Terms 1", "WORDS, up to 3, have 3 or 4 letters");
        takesLengths(0, 3, 4);
        takesUpToThree(0);

        about("Terms 1", "and are numbered from 0 on as they are told (two may be alike)");
        WordHides x = new WordHides();
        due("abc", take(x, 0, "abc"), 0);
        due("abc again", take(x, 0, "abc"), 1);
        due("bcd", take(x, 0, "bcd"), 2);
        same("word 0", text(x, 0, 0), "abc");
        same("word 1", text(x, 0, 1), "abc");
        same("word 2", text(x, 0, 2), "bcd");

        about("Terms 1", "BARRED words, up to 3, have 2 to 4, and are numbered likewise by themselves.");
        takesLengths(1, 2, 4);
        takesUpToThree(1);
        due("the first barred one behind three words", take(x, 1, "ef"), 0);
        due("barred words may be alike", take(x, 1, "ef"), 1);
        due("count(1)", x.count(1), 3);
        due("count(2)", x.count(2), 2);

        about("Terms 1", "THE REST is a text of 1 to 9 letters (x at first).");
        takesLengths(2, 1, 9);
        same("the rest at first", text(new WordHides(), 2, 0), "x");
    }

    private static void takesLengths(int kind, int least, int most) {
        for (int length = 0; length <= 16; length++) {
            WordHides x = new WordHides();
            spell(x, SIXTEEN.substring(0, length));
            boolean taken = length >= least && length <= most;
            int answer = kind == 2 ? length : 0;
            due("take(" + kind + ") of " + length, x.take(kind), taken ? answer : FAULT);
            if (taken) {
                same("its text", text(x, kind, 0), SIXTEEN.substring(0, length));
            }
        }
    }

    private static void takesUpToThree(int kind) {
        WordHides x = new WordHides();
        for (int number = 0; number < 3; number++) {
            due("take(" + kind + "), " + number + " before", take(x, kind, "abc"), number);
        }
        due("take(" + kind + "), 3 before", take(x, kind, "abc"), FULL);
        due("count", x.count(1 + kind), 3);
    }

    private static void termsOfPlaces() {
        about("Terms 1", "A PLACE is a CELL and a WAY, told as 8 times the CELL, and the WAY, added.");
        WordHides x = withWords(4, "abc");
        due("side 4: put(0, -1)", x.put(0, -1), OUTSIDE);
        due("side 4: put(0, 0)", x.put(0, 0), 3);
        due("side 4: put(0, 127) does not fit", x.put(0, 127), NO);
        due("side 4: put(0, 128)", x.put(0, 128), OUTSIDE);
        x.side(3);
        due("side 3: put(0, 71) does not fit", x.put(0, 71), NO);
        due("side 3: put(0, 72)", x.put(0, 72), OUTSIDE);
        due("side 3: put(0, 70), up from the last cell", x.put(0, 70), 3);
        same("side 3: its cells", cells(x), "..c..b..a");

        about("Terms 1", "A word fits a PLACE, if as many CELLS as it has letters lie from that CELL on in that WAY,"
                + " that CELL being the first.");
        WordHides y = withWords(4, "abc", "abcd");
        due("3 letters from column 1 on", y.put(0, place(1, 0)), 3);
        due("3 letters from column 2 on", y.put(0, place(2, 0)), NO);
        due("4 letters from column 1 on", y.put(1, place(13, 0)), NO);
        due("4 letters from column 0 on", y.put(1, place(12, 0)), 4);
        due("3 letters fit", y.fits(0, 0), 48);
        due("4 letters fit", y.fits(1, 0), 20);
        y.side(3);
        due("side 3: 3 letters fit", y.fits(0, 0), 16);
        due("side 3: 4 letters fit nowhere", y.fits(1, 0), 0);

        about("Terms 1", "It STANDS at a PLACE, if it fits it, and these CELLS have its letters, in their order.");
        WordHides z = withWords(4, "abc", "abcd");
        paint(z, "..ab" + "c..." + "...." + "d...");
        same("round the edge it does not stand", standing(z, 0, 0), "[]");
        paint(z, "abc." + "...." + "...." + "....");
        same("three letters stand", standing(z, 0, 0), "[0]");
        same("the fourth is EMPTY", standing(z, 0, 1), "[]");
        paint(z, "abce" + "...." + "...." + "....");
        same("the fourth is another", standing(z, 0, 1), "[]");
        paint(z, "bac." + "cab." + "acb." + "bca.");
        same("in another order it does not stand", standing(z, 0, 0), "[]");

        about("Terms 1", "(A word that is the same from its end stands at two PLACES, if at any.)");
        WordHides p = withWords(4, "aba", "abba");
        take(p, 1, "aa");
        same("nowhere", standing(p, 0, 0), "[]");
        paint(p, "aba." + "...." + "...." + "abba");
        same("aba", standing(p, 0, 0), "[" + place(0, 0) + ", " + place(2, 4) + "]");
        same("abba", standing(p, 0, 1), "[" + place(12, 0) + ", " + place(15, 4) + "]");
        paint(p, "...a" + "...a" + "...." + "....");
        same("barred aa", standing(p, 1, 0), "[" + place(3, 2) + ", " + place(7, 6) + "]");
    }

    private static void termsOfLayings() {
        about("Terms 2", "A LAYING has a PLACE for each WORD, that fits it");
        due("no word: the one laying has no place", new WordHides().most(0), 1);
        due("one word", withWords(3, "abc").most(0), 16);
        due("a word that fits nowhere", withWords(3, "abc", "abcd").most(0), 0);
        due("the same on side 4", withWords(4, "abcd").most(0), 20);

        about("Terms 2", "CELLS that are not EMPTY have the letter of each WORD that is laid over them already");
        WordHides x = withWords(3, "abc");
        paint(x, "a........");
        // Three lines go through the corner, and a is there only from that end.
        due("a in the corner", x.most(0), 13);
        paint(x, "z........");
        due("z in the corner", x.most(0), 10);
        paint(x, "abczzzzzz");
        due("full, abc stands once", x.most(0), 1);
        paint(x, "abzzzzzzz");
        due("full, abc does not stand", x.most(0), 0);

        about("Terms 2", "and of WORDS laid over one CELL the letters there are alike");
        due("the first two alike, the last two alike", withWords(3, "abc", "cde", "fgd")
                .covers(place(0, 0), place(2, 2), place(3, 0)), 7);
        due("the first two alike, the last two unlike", withWords(3, "abc", "cde", "fdg")
                .covers(place(0, 0), place(2, 2), place(3, 0)), NO);
        due("the first two alike, the first and the third alike", withWords(3, "abc", "cde", "afd")
                .covers(place(0, 0), place(2, 2), place(0, 2)), 7);
        due("the first and the third unlike", withWords(3, "abc", "def", "bgh")
                .covers(place(0, 0), place(3, 0), place(0, 2)), NO);
        due("the first and the third alike, the last two unlike", withWords(3, "abc", "def", "agh")
                .covers(place(0, 0), place(3, 0), place(0, 2)), NO);
        due("the first two unlike", withWords(3, "abc", "bde").covers(place(0, 0), place(0, 2), 0), NO);

        about("Terms 2", "CROSSED of a LAYING: the CELLS over which two WORDS or more are laid.");
        due("no word", new WordHides().most(1), 0);
        due("one word", withWords(3, "abc").most(1), 0);
        WordHides z = withWords(3, "abc");
        paint(z, "abczzzzzz");
        due("a letter that was there is no word", z.most(1), 0);
        due("no letter in common", withWords(3, "abc", "def").most(1), 0);
        due("one letter in common", withWords(3, "abc", "cde").most(1), 1);
        due("two alike", withWords(3, "abc", "abc").most(1), 3);
        due("three alike: a cell with three words is one", withWords(3, "abc", "abc", "abc").most(1), 3);
        // Thrice b amid is one cell, though three pairs of words cross there.
        due("all cross in one cell", withWords(3, "abc", "dbe", "fbg").most(1), 1);
        crossedByTwoPairs();
        firstOfMost();
    }

    private static void crossedByTwoPairs() {
        // A chain: each letter that two words share is at the end of both.
        due("first and second, second and third", withWords(3, "abc", "cde", "efg").most(1), 2);
        due("first and second, first and third", withWords(3, "cde", "abc", "efg").most(1), 2);
        due("first and third, second and third", withWords(3, "abc", "efg", "cde").most(1), 2);
        // Row 0, column 2 and the diagonal of cells 0, 4, 8.
        due("all pairs", withWords(3, "abc", "cde", "afe").most(1), 3);
    }

    private static void firstOfMost() {
        about("Terms 2", "of two LAYINGS that one is the first that has the lesser PLACE for the first WORD, by"
                + " numbers, for which they differ.");
        WordHides x = withWords(3, "abc");
        due("they differ for word 0", x.most(10), 0);
        // Both lie on the middle cell: the diagonal from cell 0, then the column from cell 1 on.
        WordHides y = withWords(3, "abc", "dbe");
        due("a laying before it crosses less: word 0", y.most(10), place(0, 1));
        due("a laying before it crosses less: word 1", y.most(11), place(1, 2));
        // Both words on row 0; the third one must leave it, and the next place is row 1.
        WordHides z = withWords(3, "abc", "abc", "dbe");
        due("they differ for word 2: word 0", z.most(10), 0);
        due("they differ for word 2: word 1", z.most(11), 0);
        due("they differ for word 2: word 2", z.most(12), place(3, 0));
        // All three alike cross as often as two of them: 3 cells, whatever the other one does.
        WordHides a = withWords(3, "abc", "abc", "abc");
        for (int word = 0; word < 3; word++) {
            due("three alike: word " + word, a.most(10 + word), 0);
        }
        WordHides p = withWords(3, "aba");
        paint(p, "zzzabazzz");
        due("from its end it is the same: the lesser place", p.most(10), place(3, 0));
        due("of two", p.most(2), 2);
    }

    private static void termsOfGoodOnes() {
        about("Terms 3", "then each CELL that is EMPTY yet, by rising numbers, gets a letter of THE REST: the first"
                + " one, the second one, and so on, behind its last one the first one again.");
        String[][] rests = {
            {"p", "ppppppppp"}, {"pq", "pqpqpqpqp"}, {"pqrs", "pqrspqrsp"}, {"pqrstuvw", "pqrstuvwp"},
            {"pqrstuvwy", "pqrstuvwy"}};
        for (String[] rest : rests) {
            WordHides x = ofSide(3);
            take(x, 2, rest[0]);
            same("side 3, rest " + rest[0], filled(x), rest[1] + ".......");
        }
        WordHides x = ofSide(4);
        take(x, 2, "pqrstuvwy");
        same("side 4, nine letters", filled(x), "pqrstuvwypqrstuv");
        paint(x, "a..b" + "..c." + "...." + "d..e");
        same("letters that are there take none of the rest", filled(x), "apqbrsctuvwydpqe");
        paint(x, "abcdefghijklmno.");
        same("one cell is EMPTY", filled(x), "abcdefghijklmnop");
        paint(x, "abcdefghijklmnoz");
        same("no cell is EMPTY", filled(x), "abcdefghijklmnoz");
        WordHides y = withWords(3, "abc");
        take(y, 2, "pqrs");
        y.set(2, 'z');
        // Row 0 is shut by z: the diagonal from cell 0 is the first that is left.
        same("a word and a letter", filled(y), "apzqbrspc.......");

        about("Terms 3", "each WORD STANDS at as many PLACES as it is bound to: one, or two, if it is the same from"
                + " its end");
        eachWordOnce();

        about("Terms 3", "and no BARRED word STANDS anywhere.");
        noBarredWord();
    }

    private static void eachWordOnce() {
        due("abc", withWords(3, "abc").good(0), 16);
        due("aba", withWords(3, "aba").good(0), 16);
        due("abba", withWords(4, "abba").good(0), 20);
        due("aaaa", withWords(4, "aaaa").good(0), 20);
        WordHides x = withWords(3, "abc");
        paint(x, "abc...cba");
        due("it stands twice already", x.good(0), 0);
        paint(x, "abc......");
        due("it stands once already", x.good(0), 1);
        WordHides y = withWords(3, "aaa");
        paint(y, "aaa......");
        due("all 16 places are free, two of them add nothing", y.good(0), 2);
        due("of these layings", y.most(0), 16);
        paint(y, "aaa...aaa");
        due("it stands at four places already", y.good(0), 0);
        due("alike words lie at one place", withWords(3, "abc", "abc").good(0), 16);
        due("alike words, the same from their end, lie on one line", withWords(3, "aba", "aba").good(0), 32);
        WordHides turned = withWords(3, "abc", "cba");
        due("a word that is another from its end lies on it", turned.good(0), 16);
        due("from its end", turned.good(11), place(2, 4));
        due("a word that is a part of another lies on it", withWords(4, "abc", "abcd").good(0), 20);
        due("a word that stands in another too often", withWords(4, "aaa", "aaaa").good(0), 0);
        WordHides byChance = withWords(3, "abc");
        take(byChance, 2, "abc");
        // Row 0 makes abc of the other rows, the diagonal makes cba of row 1; column 0 makes neither.
        due("by chance: the first good one", byChance.good(10), place(0, 2));
        same("by chance: its cells", filled(byChance), "aabbcacbc.......");
        WordHides single = withWords(3, "xxx");
        due("the rest alone makes it stand too often", single.good(0), 0);
        paint(single, "...zzzzzz");
        due("one line is left for it", single.good(0), 2);
    }

    private static void noBarredWord() {
        due("bc, a part of the word", barring(3, "abc", "bc").good(0), 0);
        due("cb, a part from the end", barring(3, "abc", "cb").good(0), 0);
        due("the word itself", barring(3, "abc", "abc").good(0), 0);
        due("the word from its end", barring(3, "abc", "cba").good(0), 0);
        due("ac, whose letters are never side by side", barring(3, "abc", "ac").good(0), 16);
        due("cx, by chance", barring(3, "abc", "cx").good(0), 0);
        due("xc, by chance", barring(3, "abc", "xc").good(0), 0);
        due("four letters do not fit side 3", barring(3, "abc", "xxxx").good(0), 16);
        due("only the third is met", barring(3, "abc", "pq", "rs", "xx").good(0), 0);
        due("none of three is met", barring(3, "abc", "pq", "rs", "tu").good(0), 16);
        WordHides x = barring(3, "abc", "zz");
        paint(x, "zz.......");
        due("it stands already", x.good(0), 0);
        // Lines through neither of these cells: rows 1 and 2, column 2 and the diagonal of cells 2, 4, 6.
        due("for layings it is no matter", x.most(0), 8);
        WordHides y = ofSide(3);
        take(y, 1, "xxx");
        due("no words, the rest makes it", y.good(0), 0);
        paint(y, "z...z...z");
        due("no words, two letters in each line at most", y.good(0), 1);
        WordHides edge = ofSide(3);
        take(edge, 1, "pq");
        paint(edge, "..pq..pq.");
        due("a word over the edge does not stand, cells 6 and 7 make it", edge.good(0), 0);
        paint(edge, "..pq..zz.");
        due("over the edge alone it does not stand", edge.good(0), 1);
    }

    private static WordHides barring(int side, String word, String... barred) {
        WordHides x = withWords(side, word);
        for (String text : barred) {
            take(x, 1, text);
        }
        return x;
    }

    // ---- Promises 1 to 11: the square, words

    private static void newObject() {
        about("Promise 1", "All CELLS are EMPTY; no WORDS, no BARRED ones; THE PAD is empty; no IMAGE is kept.");
        WordHides x = new WordHides();
        same("cells", cells(x), "................");
        due("words", x.count(1), 0);
        due("barred words", x.count(2), 0);
        due("signs of the pad", x.count(4), 0);
        due("images", x.count(6), 0);
        due("letter(0, 0, -1)", x.letter(0, 0, -1), UNKNOWN);
        due("letter(1, 0, -1)", x.letter(1, 0, -1), UNKNOWN);
        due("wipe()", x.wipe(), 0);
        due("restore(0)", x.restore(0), STATE);
        due("restore(1)", x.restore(1), STATE);
    }

    private static void side() {
        about("Promise 2", "SIDE is v, all CELLS are EMPTY: which it was.");
        WordHides x = new WordHides();
        due("side(4) at first", x.side(4), 4);
        paint(x, "abcdefghijklmnop");
        due("side(4), as it is", x.side(4), 4);
        same("cells", cells(x), "................");
        paint(x, "abcdefghijklmnop");
        due("side(3)", x.side(3), 4);
        same("cells", cells(x), ".........");
        paint(x, "abcdefghi");
        due("side(3), as it is", x.side(3), 3);
        same("cells", cells(x), ".........");
        paint(x, "abcdefghi");
        due("side(4)", x.side(4), 3);
        same("cells, the last seven too", cells(x), "................");

        about("Promise 2", "OUTSIDE.");
        for (int v : new int[] {2, 5, 0, -3, -4, 3 + 256, LOW, HIGH}) {
            due("side(" + v + ")", x.side(v), OUTSIDE);
            due("count(0)", x.count(0), 4);
        }
    }

    private static void set() {
        about("Promise 3", "A CELL has a letter (0: it is EMPTY): which it had (0: it was EMPTY).");
        WordHides x = new WordHides();
        due("set(0, 0), EMPTY already", x.set(0, 0), 0);
        due("set(0, a)", x.set(0, 'a'), 0);
        due("set(0, a) again", x.set(0, 'a'), 'a');
        due("set(0, z)", x.set(0, 'z'), 'a');
        due("set(0, 0)", x.set(0, 0), 'z');
        due("at(0)", x.at(0), NONE);
        due("set(15, m), the last cell", x.set(15, 'm'), 0);
        due("at(15)", x.at(15), 'm');

        about("Promise 3", "UNKNOWN; OUTSIDE.");
        for (int cell : new int[] {-1, 16, 256, LOW, HIGH}) {
            due("set(" + cell + ", a)", x.set(cell, 'a'), UNKNOWN);
        }
        for (int letter : new int[] {-1, 1, 96, 123, LOW, HIGH}) {
            due("set(15, " + letter + ")", x.set(15, letter), OUTSIDE);
            due("set(0, " + letter + "), EMPTY", x.set(0, letter), OUTSIDE);
        }
        same("cells", cells(x), "...............m");
        x.side(3);
        due("side 3: set(8, a)", x.set(8, 'a'), 0);
        due("side 3: set(9, a)", x.set(9, 'a'), UNKNOWN);
    }

    private static void at() {
        about("Promise 4", "The letter of a CELL; NONE: it is EMPTY.");
        WordHides x = new WordHides();
        paint(x, "a..............z");
        due("at(0)", x.at(0), 'a');
        due("at(1)", x.at(1), NONE);
        due("at(15)", x.at(15), 'z');

        about("Promise 4", "UNKNOWN.");
        for (int cell : new int[] {-1, 16, LOW, HIGH}) {
            due("at(" + cell + ")", x.at(cell), UNKNOWN);
        }
        x.side(3);
        due("side 3: at(8)", x.at(8), NONE);
        due("side 3: at(9)", x.at(9), UNKNOWN);
        due("side 3: at(15)", x.at(15), UNKNOWN);
    }

    private static void say() {
        about("Promise 5", "A sign more on THE PAD: how many.");
        WordHides x = new WordHides();
        due("the first", x.say('a'), 1);
        for (int many = 2; many <= 16; many++) {
            due("sign " + many, x.say('a'), many);
        }

        about("Promise 5", "FULL: there are 16.");
        due("a 17th", x.say('b'), FULL);
        due("count(4)", x.count(4), 16);
        x.fill();
        same("the 17th is nowhere", cells(x), "aaaaaaaaaaaaaaaa");
        due("the first again", x.say('b'), 1);

        about("Promise 5", "OUTSIDE: it is not a letter");
        for (int sign : new int[] {96, 123, 0, -1, 'A', LOW, HIGH}) {
            due("say(" + sign + ")", x.say(sign), OUTSIDE);
        }
        due("count(4)", x.count(4), 1);
    }

    private static void wipe() {
        about("Promise 6", "THE PAD is empty: how many signs it had.");
        WordHides x = new WordHides();
        due("wipe(), empty", x.wipe(), 0);
        x.say('a');
        due("wipe() of 1", x.wipe(), 1);
        spell(x, SIXTEEN);
        due("wipe() of 16", x.wipe(), 16);
        due("count(4)", x.count(4), 0);
        due("wipe() again", x.wipe(), 0);
        due("a text behind it", take(x, 2, "b"), 1);
        same("is that one alone", text(x, 2, 0), "b");
    }

    private static void take() {
        about("Promise 7", "THE PAD, which is empty then, is a WORD more (kind = 0), a BARRED word more (1): its number;"
                + " THE REST (2): how many letters that has.");
        for (int kind = 0; kind < 3; kind++) {
            WordHides x = new WordHides();
            due("take(" + kind + ")", take(x, kind, "abcd"), kind == 2 ? 4 : 0);
            due("count(4)", x.count(4), 0);
            due("the next", take(x, kind, "efg"), kind == 2 ? 3 : 1);
            same("its text", text(x, kind, kind == 2 ? 0 : 1), "efg");
        }

        about("Promise 7", "OUTSIDE; FAULT: it has not as many letters as told");
        for (int kind : new int[] {-1, 3, LOW, HIGH}) {
            WordHides x = new WordHides();
            spell(x, "abc");
            due("take(" + kind + ")", x.take(kind), OUTSIDE);
            due("count(4)", x.count(4), 3);
        }
        for (int[] wrong : new int[][] {{0, 0}, {0, 2}, {0, 5}, {0, 16}, {1, 0}, {1, 1}, {1, 5}, {2, 0}, {2, 10}, {2, 16}}) {
            WordHides x = new WordHides();
            spell(x, SIXTEEN.substring(0, wrong[1]));
            due("take(" + wrong[0] + ") of " + wrong[1], x.take(wrong[0]), FAULT);
            due("the pad stays", x.count(4), wrong[1]);
        }

        about("Promise 7", "FULL: there are 3 (0, 1).");
        for (int kind = 0; kind < 2; kind++) {
            WordHides x = new WordHides();
            take(x, kind, "abc");
            take(x, kind, "abc");
            due("the third", take(x, kind, "abc"), 2);
            due("the fourth", take(x, kind, "def"), FULL);
            due("the pad stays", x.count(4), 3);
            due("the other kind takes it", x.take(1 - kind), 0);
            same("its text", text(x, 1 - kind, 0), "def");
            x.drop(kind);
            due("none is there again", take(x, kind, "ghi"), 0);
        }
        WordHides y = new WordHides();
        for (int time = 0; time < 5; time++) {
            due("the rest is never full", take(y, 2, "ab"), 2);
        }
    }

    private static void drop() {
        about("Promise 8", "All WORDS (kind = 0), BARRED words (1) go: how many there were.");
        for (int kind = 0; kind < 2; kind++) {
            WordHides x = new WordHides();
            due("drop(" + kind + "), none", x.drop(kind), 0);
            for (int number = 0; number < 3; number++) {
                take(x, kind, "abc");
            }
            take(x, 1 - kind, "def");
            due("drop(" + kind + ") of 3", x.drop(kind), 3);
            due("none is left", x.count(1 + kind), 0);
            due("letter", x.letter(kind, 0, 0), UNKNOWN);
            due("the others stay", x.count(2 - kind), 1);
            due("drop(" + kind + ") again", x.drop(kind), 0);
        }

        about("Promise 8", "OUTSIDE.");
        WordHides y = withWords(4, "abc");
        for (int kind : new int[] {-1, 2, 3, LOW, HIGH}) {
            due("drop(" + kind + ")", y.drop(kind), OUTSIDE);
        }
        due("count(1)", y.count(1), 1);
        same("the rest stays", text(y, 2, 0), "x");
    }

    private static void fill() {
        about("Promise 9", "THE PAD, which is empty then, is THE SQUARE, CELL by CELL: how many letters changed (an"
                + " EMPTY CELL had another one).");
        WordHides x = new WordHides();
        spell(x, "abcdefghijklmnop");
        due("all were EMPTY", x.fill(), 16);
        due("count(4)", x.count(4), 0);
        same("cells", cells(x), "abcdefghijklmnop");
        spell(x, "abcdefghijklmnop");
        due("none changed", x.fill(), 0);
        due("count(4)", x.count(4), 0);
        spell(x, "abcdefghijklmnoz");
        due("the last one changed", x.fill(), 1);
        x.set(0, 0);
        spell(x, "abcdefghijklmnoz");
        due("one was EMPTY", x.fill(), 1);

        about("Promise 9", "FAULT: it has not as many letters as there are CELLS.");
        for (int side = 3; side <= 4; side++) {
            for (int length = 0; length <= 16; length++) {
                WordHides y = ofSide(side);
                spell(y, SIXTEEN.substring(0, length));
                boolean right = length == side * side;
                due("side " + side + ", " + length + " letters", y.fill(), right ? length : FAULT);
                due("count(4)", y.count(4), right ? 0 : length);
                due("count(3)", y.count(3), right ? 0 : side * side);
            }
        }
    }

    private static void letter() {
        WordHides x = withWords(4, "abcd", "efg");
        take(x, 1, "hi");
        take(x, 2, "jklmnopqr");
        about("Promise 10", "Letter i, from 0 on, of a WORD (kind = 0), a BARRED word (1), of THE REST (2; number is no"
                + " matter) (i = -1: how many)");
        due("the first of a word", x.letter(0, 0, 0), 'a');
        due("the last of a word", x.letter(0, 0, 3), 'd');
        due("the last of a barred word", x.letter(1, 0, 1), 'i');
        due("the last of the rest", x.letter(2, 0, 8), 'r');
        due("letter(0, 0, -1)", x.letter(0, 0, -1), 4);
        due("letter(0, 1, -1)", x.letter(0, 1, -1), 3);
        due("letter(1, 0, -1)", x.letter(1, 0, -1), 2);
        for (int number : new int[] {-1, 1, 3, LOW, HIGH}) {
            due("letter(2, " + number + ", -1)", x.letter(2, number, -1), 9);
            due("letter(2, " + number + ", 0)", x.letter(2, number, 0), 'j');
        }

        about("Promise 10", "NONE: there is none such.");
        due("behind a word of 4", x.letter(0, 0, 4), NONE);
        due("behind a word of 3", x.letter(0, 1, 3), NONE);
        due("behind a barred word", x.letter(1, 0, 2), NONE);
        due("behind the rest", x.letter(2, 0, 9), NONE);
        due("far behind a word", x.letter(0, 0, HIGH), NONE);
        due("far behind the rest", x.letter(2, 0, HIGH), NONE);
        take(x, 2, "z");
        due("behind a shorter rest", x.letter(2, 0, 1), NONE);
        x.drop(0);
        take(x, 0, "stu");
        due("behind a shorter word", x.letter(0, 0, 3), NONE);

        about("Promise 10", "OUTSIDE: kind, i is below -1; UNKNOWN: the word.");
        for (int kind : new int[] {-1, 3, LOW, HIGH}) {
            due("letter(" + kind + ", 0, 0)", x.letter(kind, 0, 0), OUTSIDE);
        }
        for (int i : new int[] {-2, LOW}) {
            due("letter(0, 0, " + i + ")", x.letter(0, 0, i), OUTSIDE);
            due("letter(1, 0, " + i + ")", x.letter(1, 0, i), OUTSIDE);
            due("letter(2, 0, " + i + ")", x.letter(2, 0, i), OUTSIDE);
        }
        for (int number : new int[] {-1, 1, 2, 3, LOW, HIGH}) {
            due("letter(0, " + number + ", 0)", x.letter(0, number, 0), UNKNOWN);
            due("letter(1, " + number + ", -1)", x.letter(1, number, -1), UNKNOWN);
        }
    }

    private static void stands() {
        WordHides x = withWords(3, "aaa", "abc");
        take(x, 1, "aa");
        take(x, 1, "bb");
        about("Promise 11", "At how many PLACES a WORD (kind = 0), a BARRED word (1) STANDS in THE SQUARE (i = -1); the"
                + " i-th of them, from 0 on, by rising numbers");
        due("nowhere", x.stands(0, 0, -1), 0);
        paint(x, "aaaaaaaaa");
        due("wherever it fits", x.stands(0, 0, -1), 16);
        due("the first", x.stands(0, 0, 0), place(0, 0));
        due("the second", x.stands(0, 0, 1), place(0, 1));
        due("the last", x.stands(0, 0, 15), place(8, 6));
        // 6 pairs in rows, 6 in columns, 8 in slanting lines, each from either end.
        due("two letters, wherever they fit", x.stands(1, 0, -1), 40);
        due("two letters, the last", x.stands(1, 0, 39), place(8, 6));
        int before = -1;
        for (int i = 0; i < 40; i++) {
            due("by rising numbers, " + i, x.stands(1, 0, i) > before ? 1 : 0, 1);
            before = x.stands(1, 0, i);
        }
        due("another word stands nowhere", x.stands(0, 1, -1), 0);

        about("Promise 11", "NONE: there is none such.");
        due("behind the last", x.stands(0, 0, 16), NONE);
        due("behind the last, barred", x.stands(1, 0, 40), NONE);
        due("far behind", x.stands(0, 0, HIGH), NONE);
        due("the first of none", x.stands(0, 1, 0), NONE);
        due("the first of none, barred", x.stands(1, 1, 0), NONE);

        about("Promise 11", "OUTSIDE: kind, i is below -1; UNKNOWN: the word.");
        for (int kind : new int[] {-1, 2, LOW, HIGH}) {
            due("stands(" + kind + ", 0, 0)", x.stands(kind, 0, 0), OUTSIDE);
        }
        for (int i : new int[] {-2, LOW}) {
            due("stands(0, 0, " + i + ")", x.stands(0, 0, i), OUTSIDE);
            due("stands(1, 0, " + i + ")", x.stands(1, 0, i), OUTSIDE);
        }
        for (int number : new int[] {-1, 2, 3, LOW, HIGH}) {
            due("stands(0, " + number + ", -1)", x.stands(0, number, -1), UNKNOWN);
            due("stands(1, " + number + ", 0)", x.stands(1, number, 0), UNKNOWN);
        }
    }

    private static void put() {
        about("Promise 12", "A WORD is laid at a PLACE: how many EMPTY CELLS got a letter.");
        WordHides x = withWords(4, "abcd", "aef");
        due("all were EMPTY", x.put(0, place(0, 0)), 4);
        due("none was EMPTY", x.put(0, place(0, 0)), 0);
        due("the first one had its letter", x.put(1, place(0, 2)), 2);
        same("cells", cells(x), "abcde...f.......");

        about("Promise 12", "UNKNOWN: the WORD; OUTSIDE: there is no such PLACE; NO: it does not fit, or a CELL has"
                + " another letter.");
        for (int number : new int[] {-1, 2, 3, LOW, HIGH}) {
            due("put(" + number + ", 0)", x.put(number, 0), UNKNOWN);
        }
        for (int place : new int[] {-1, 128, LOW, HIGH}) {
            due("put(0, " + place + ")", x.put(0, place), OUTSIDE);
        }
        due("it does not fit", x.put(0, place(13, 0)), NO);
        due("the first cell has another letter", x.put(1, place(1, 2)), NO);
        due("the last cell has another letter", x.put(1, place(9, 6)), NO);
        same("cells", cells(x), "abcde...f.......");
        for (int cell = 12; cell < 16; cell++) {
            WordHides y = withWords(4, "abcd");
            y.set(cell, 'z');
            due("cell " + cell + " alone has another letter", y.put(0, place(12, 0)), NO);
        }
        x.side(3);
        due("side 3: put(1, 72)", x.put(1, 72), OUTSIDE);
        due("side 3: four letters do not fit", x.put(0, 0), NO);
        due("put(0, 0), no word", new WordHides().put(0, 0), UNKNOWN);
    }

    // ---- Promises 13 to 17: layings, good ones

    private static void fits() {
        about("Promise 13", "How many PLACES a WORD fits (what = 0), how many of these are such that CELLS have its"
                + " letters or are EMPTY (1).");
        WordHides x = withWords(3, "abc", "abcd", "aba");
        due("fits(0, 0)", x.fits(0, 0), 16);
        due("fits(0, 1), all are EMPTY", x.fits(0, 1), 16);
        due("fits(1, 0), too long", x.fits(1, 0), 0);
        due("fits(1, 1), too long", x.fits(1, 1), 0);
        paint(x, "zzzzzzzzz");
        due("fits(0, 0), the letters are no matter", x.fits(0, 0), 16);
        due("fits(0, 1), no place is left", x.fits(0, 1), 0);
        paint(x, "abazzzzzz");
        due("fits(0, 1), its last letter is another", x.fits(0, 1), 0);
        due("fits(2, 1), the same from its end", x.fits(2, 1), 2);
        paint(x, "ab.zzzzzz");
        due("fits(0, 1), its last cell is EMPTY", x.fits(0, 1), 1);

        about("Promise 13", "UNKNOWN; OUTSIDE.");
        for (int number : new int[] {-1, 3, LOW, HIGH}) {
            due("fits(" + number + ", 0)", x.fits(number, 0), UNKNOWN);
        }
        for (int what : new int[] {-1, 2, LOW, HIGH}) {
            due("fits(0, " + what + ")", x.fits(0, what), OUTSIDE);
        }
        due("no word: fits(0, 0)", new WordHides().fits(0, 0), UNKNOWN);
    }

    private static void most() {
        about("Promise 14", "How many LAYINGS there are (what = 0), CROSSED of MOST (1), how many LAYINGS have as many"
                + " (2)");
        answersOfMost("no word", new WordHides(), 1, 0, 1);
        answersOfMost("one word", withWords(3, "abc"), 16, 0, 16);
        // 48 share the middle cell, 48 lie side by side.
        answersOfMost("two words", withWords(3, "abc", "dbe"), 96, 1, 48);
        answersOfMost("three words, all layings", withWords(4, "aaa", "aaa", "aaa"), 48 * 48 * 48, -1, -1);
        WordHides full = withWords(3, "abc", "cde", "efg");
        paint(full, "abc..dgfe");
        answersOfMost("one is left", full, 1, 2, 1);

        about("Promise 14", "the PLACE of WORD what less 10 in the first of these (10 to 12; NONE: there is no such"
                + " WORD)");
        String[] words = {"abc", "cde", "efg"};
        int[] places = {place(0, 0), place(2, 2), place(8, 4)};
        for (int many = 0; many <= 3; many++) {
            WordHides x = ofSide(3);
            for (int number = 0; number < many; number++) {
                take(x, 0, words[number]);
            }
            for (int number = 0; number < 3; number++) {
                due(many + " words: most(" + (10 + number) + ")", x.most(10 + number),
                        number < many ? places[number] : NONE);
            }
        }

        about("Promise 14", "NONE (1 and more): there is no LAYING.");
        WordHides none = withWords(3, "abc", "abcd");
        due("most(0)", none.most(0), 0);
        for (int what : new int[] {1, 2, 10, 11, 12}) {
            due("most(" + what + ")", none.most(what), NONE);
        }

        about("Promise 14", "OUTSIDE.");
        for (WordHides x : new WordHides[] {new WordHides(), none, full}) {
            for (int what : new int[] {-1, 3, 9, 13, 100, LOW, HIGH}) {
                due("most(" + what + ")", x.most(what), OUTSIDE);
            }
        }
    }

    private static void answersOfMost(String when, WordHides x, int... answers) {
        for (int what = 0; what < 3; what++) {
            if (answers[what] >= 0) {
                due(when + ": most(" + what + ")", x.most(what), answers[what]);
            }
        }
    }

    private static void covers() {
        about("Promise 15", "How many CELLS the LAYING covers that is told by three PLACES, of WORDS 0, 1, 2 (those of"
                + " WORDS that there are not are no matter).");
        int row = place(0, 0);
        int column = place(2, 2);
        int back = place(8, 4);
        for (int any : new int[] {0, -1, 72, LOW, HIGH}) {
            due("no word, " + any, ofSide(3).covers(any, any, any), 0);
            due("one word, " + any, withWords(3, "abc").covers(row, any, any), 3);
            due("two words, " + any, withWords(3, "abc", "cde").covers(row, column, any), 5);
        }
        WordHides x = withWords(3, "abc", "cde", "efg");
        due("three words", x.covers(row, column, back), 7);
        due("alike words at one place", withWords(3, "abc", "abc", "abc").covers(row, row, row), 3);
        due("all cells", withWords(3, "abc", "def", "ghi").covers(row, place(3, 0), place(6, 0)), 9);
        WordHides given = withWords(3, "abc");
        paint(given, "abczzzzzz");
        due("cells with letters are covered too, others not", given.covers(row, 0, 0), 3);

        about("Promise 15", "OUTSIDE: a PLACE that matters is none");
        for (int bad : new int[] {-1, 72, 128, LOW, HIGH}) {
            due("the first is " + bad, x.covers(bad, column, back), OUTSIDE);
            due("the second is " + bad, x.covers(row, bad, back), OUTSIDE);
            due("the third is " + bad, x.covers(row, column, bad), OUTSIDE);
            due("two words, the second is " + bad, withWords(3, "abc", "cde").covers(row, bad, back), OUTSIDE);
            due("one word, it is " + bad, withWords(3, "abc").covers(bad, column, back), OUTSIDE);
        }
        WordHides large = withWords(4, "abc");
        due("side 4: 127 is a place", large.covers(127, 0, 0), NO);
        due("side 4: 128 is none", large.covers(128, 0, 0), OUTSIDE);
        due("side 3: 71 is a place", x.covers(71, column, back), NO);

        about("Promise 15", "NO: it is no LAYING.");
        due("the first does not fit", x.covers(place(1, 0), column, back), NO);
        due("the second does not fit", x.covers(row, place(1, 0), back), NO);
        due("the third does not fit", x.covers(row, column, place(1, 0)), NO);
        due("the first two are unlike", x.covers(row, row, back), NO);
        due("the last two are unlike", x.covers(row, column, column), NO);
        due("the first and the last are unlike", x.covers(row, place(3, 0), row), NO);
        x.set(8, 'z');
        due("a cell has another letter", x.covers(row, column, place(6, 6)), NO);
        x.set(8, 'e');
        due("a cell has its letter", x.covers(row, column, back), 7);
    }

    private static void good() {
        about("Promise 16", "How many LAYINGS are GOOD (what = 0), the PLACE of WORD what less 10 in the first of these"
                + " (10 to 12; NONE: there is no such WORD)");
        String[] words = {"abc", "cde", "efg"};
        for (int many = 0; many <= 3; many++) {
            WordHides x = ofSide(3);
            for (int number = 0; number < many; number++) {
                take(x, 0, words[number]);
            }
            due(many + " words: some are good", x.good(0) > 0 ? 1 : 0, 1);
            for (int number = 0; number < 3; number++) {
                boolean told = x.good(10 + number) >= 0;
                due(many + " words: good(" + (10 + number) + ")", told ? 1 : x.good(10 + number), number < many ? 1 : NONE);
            }
        }
        WordHides chain = withWords(3, words);
        paint(chain, "abc..dgfe");
        due("one is left", chain.good(0), 1);
        due("word 0", chain.good(10), place(0, 0));
        due("word 1", chain.good(11), place(2, 2));
        due("word 2", chain.good(12), place(8, 4));
        due("no word: one, the empty one", new WordHides().good(0), 1);

        about("Promise 16", "the letter of CELL what less 100 in THE SQUARE FILLED by it (100 and more; NONE: there is no"
                + " such CELL)");
        same("side 3: cells 9 to 15 are none", filled(chain), "abcxxdgfe.......");
        due("side 3: good(108)", chain.good(108), 'e');
        due("side 3: good(109)", chain.good(109), NONE);
        due("side 3: good(115)", chain.good(115), NONE);
        due("side 4: good(100)", new WordHides().good(100), 'x');
        due("side 4: good(115)", new WordHides().good(115), 'x');

        about("Promise 16", "NONE (but of 0): none is GOOD.");
        WordHides spoiled = barring(3, "abc", "bc");
        WordHides unlaid = withWords(3, "abcd");
        for (WordHides x : new WordHides[] {spoiled, unlaid}) {
            due("good(0)", x.good(0), 0);
            for (int what : new int[] {10, 11, 12, 100, 108, 109, 115}) {
                due("good(" + what + ")", x.good(what), NONE);
            }
        }

        about("Promise 16", "OUTSIDE: what is not 0, 10 to 12, nor 100 to 115.");
        for (WordHides x : new WordHides[] {new WordHides(), chain, spoiled, unlaid}) {
            for (int what : new int[] {-1, 1, 2, 9, 13, 99, 116, LOW, HIGH}) {
                due("good(" + what + ")", x.good(what), OUTSIDE);
            }
        }
    }

    private static void hide() {
        about("Promise 17", "THE SQUARE is FILLED by the first LAYING that is GOOD: how many letters of THE REST it got.");
        WordHides x = withWords(4, "abc");
        take(x, 2, "pqrstuvwy");
        due("13 of nine letters", x.hide(), 13);
        same("cells", cells(x), "abcpqrstuvwypqrs");
        due("none is EMPTY", x.hide(), 0);
        same("cells", cells(x), "abcpqrstuvwypqrs");
        due("a new object, no word", new WordHides().hide(), 16);
        WordHides y = withWords(3, "abc", "def", "ghi");
        due("words leave no cell", y.hide(), 0);
        same("cells", cells(y), "abcdefghi");
        WordHides given = withWords(3, "abc");
        paint(given, "ab.zzzzz.");
        due("a letter of a word is none of the rest", given.hide(), 1);
        same("cells", cells(given), "abczzzzzx");
        WordHides later = withWords(3, "abc");
        take(later, 2, "abc");
        due("the first laying is not good", later.hide(), 6);
        same("cells", cells(later), "aabbcacbc");

        about("Promise 17", "NO: none is GOOD.");
        WordHides spoiled = barring(3, "abc", "bc");
        spoiled.set(4, 'z');
        due("a barred word stands in each", spoiled.hide(), NO);
        same("cells", cells(spoiled), "....z....");
        WordHides unlaid = withWords(3, "abcd");
        due("no laying", unlaid.hide(), NO);
        same("cells", cells(unlaid), ".........");
        WordHides full = withWords(3, "abc");
        paint(full, "zzzzzzzzz");
        due("full, the word does not stand", full.hide(), NO);
        paint(full, "abczzzabc");
        due("full, the word stands twice", full.hide(), NO);
    }

    // ---- Promises 18 to 20: images

    private static void image() {
        about("Promise 18", "All but THE PAD and IMAGES is kept in an IMAGE (0, 1), in place of what was kept there: 1.");
        for (int k = 0; k < 2; k++) {
            WordHides x = new WordHides();
            due("image(" + k + ") of a new object", x.image(k), 1);
            due("count(6)", x.count(6), 1 + k);
            x.set(0, 'a');
            due("image(" + k + ") again", x.image(k), 1);
            x.set(0, 'b');
            x.restore(k);
            due("it is the later one", x.at(0), 'a');
            due("the other one is not kept", x.restore(1 - k), STATE);
        }
        WordHides y = new WordHides();
        y.set(0, 'a');
        spell(y, "pq");
        y.image(0);
        y.set(0, 'b');
        y.image(1);
        y.wipe();
        y.restore(0);
        due("the pad is not kept", y.count(4), 0);
        due("images are not kept: both stay", y.count(6), 3);
        y.restore(1);
        due("image 1 is its own", y.at(0), 'b');

        about("Promise 18", "OUTSIDE.");
        for (int k : new int[] {-1, 2, 32, LOW, HIGH}) {
            WordHides x = new WordHides();
            due("image(" + k + ")", x.image(k), OUTSIDE);
            due("count(6)", x.count(6), 0);
        }
    }

    private static void restore() {
        about("Promise 19", "All but THE PAD and IMAGES is as it was when it was kept; the IMAGE stays: 1.");
        WordHides x = withWords(3, "abc", "defg", "abc");
        take(x, 1, "hi");
        take(x, 1, "jk");
        take(x, 1, "lmno");
        take(x, 2, "pqrstuvwy");
        paint(x, "z..a.....");
        spell(x, "mn");
        x.image(0);
        String kept = shown(x);
        WordHides fresh = new WordHides();
        spell(fresh, "mn");
        fresh.image(0);
        String keptFresh = shown(fresh);
        for (int time = 0; time < 2; time++) {
            changeAll(x);
            changeAll(fresh);
            due("restore(0)", x.restore(0), 1);
            same("all, " + time, shown(x), kept);
            due("restore(0), a new object", fresh.restore(0), 1);
            same("a new object, " + time, shown(fresh), keptFresh);
        }
        x.wipe();
        x.restore(0);
        due("the pad is not as it was", x.count(4), 0);
        x.image(1);
        x.restore(0);
        due("an image kept later stays", x.count(6), 3);

        about("Promise 19", "OUTSIDE; STATE: nothing was kept in it.");
        for (int k : new int[] {-1, 2, 32, LOW, HIGH}) {
            due("restore(" + k + ")", x.restore(k), OUTSIDE);
        }
        WordHides y = new WordHides();
        due("restore(0)", y.restore(0), STATE);
        due("restore(1)", y.restore(1), STATE);
        y.image(1);
        due("restore(0), only 1 is kept", y.restore(0), STATE);
        due("restore(1)", y.restore(1), 1);
    }

    /** Changes all that an image keeps, and leaves two signs on the pad. */
    private static void changeAll(WordHides x) {
        x.wipe();
        x.side(4);
        x.drop(0);
        x.drop(1);
        take(x, 0, "xxxx");
        take(x, 1, "yyy");
        take(x, 2, "zz");
        paint(x, "bbbbbbbbbbbbbbbb");
        spell(x, "mn");
    }

    private static void count() {
        about("Promise 20", "SIDE (0), WORDS (1), BARRED words (2), CELLS that are EMPTY (3), signs of THE PAD (4), unlike"
                + " letters in THE SQUARE (5), which IMAGES are kept, a set: bits 0, 1 (6).");
        WordHides x = new WordHides();
        counts("new", x, 4, 0, 0, 16, 0, 0, 0);
        x.image(1);
        counts("image 1", x, 4, 0, 0, 16, 0, 0, 2);
        for (int number = 0; number < 3; number++) {
            take(x, 0, "abc");
            take(x, 1, "ab");
        }
        paint(x, "zbcdefghijklmnoa");
        spell(x, SIXTEEN);
        x.image(0);
        counts("as many as can be", x, 4, 3, 3, 0, 16, 16, 3);
        paint(x, "aaaaaaaaaaaaaaaz");
        counts("two letters", x, 4, 3, 3, 0, 16, 2, 3);
        paint(x, "aaaaaaaaaaaaaaaa");
        counts("one letter", x, 4, 3, 3, 0, 16, 1, 3);
        x.side(3);
        counts("side 3", x, 3, 3, 3, 9, 16, 0, 3);
        x.set(8, 'z');
        counts("side 3, the last cell", x, 3, 3, 3, 8, 16, 1, 3);
        WordHides y = new WordHides();
        y.image(0);
        counts("image 0", y, 4, 0, 0, 16, 0, 0, 1);

        about("Promise 20", "OUTSIDE.");
        for (int what : new int[] {-1, 7, 8, LOW, HIGH}) {
            due("count(" + what + ")", x.count(what), OUTSIDE);
        }
    }

    private static void counts(String when, WordHides x, int... counts) {
        for (int what = 0; what < counts.length; what++) {
            due(when + ": count(" + what + ")", x.count(what), counts[what]);
        }
    }
}
