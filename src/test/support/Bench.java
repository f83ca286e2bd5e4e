import java.io.IOException;
import java.nio.file.Files;
import java.nio.file.Path;
import java.util.ArrayList;
import java.util.List;

/** What tests share: answers compared with those that are due, and all that an object tells. */
abstract class Bench {
    static final int UNKNOWN = -1, OUTSIDE = -2, STATE = -3, FULL = -4, NO = -5, NONE = -6, FAULT = -7;
    static final int LOW = Integer.MIN_VALUE, HIGH = Integer.MAX_VALUE;
    /** 16 signs that no other text of the tests begins with. */
    static final String SIXTEEN = "klmnopqrstklmnop";

    private static final List<String> SENTENCES = new ArrayList<>();
    private static String heading = "";
    private static int asked = 0;
    private static int wrong = 0;

    /** What is asked from here on tests this sentence of the document. */
    static void about(String part, String sentence) {
        heading = part + ": " + sentence;
        SENTENCES.add(sentence);
    }

    static void due(String call, int got, int want) {
        same(call, String.valueOf(got), String.valueOf(want));
    }

    static void same(String what, String got, String want) {
        asked++;
        if (!got.equals(want)) {
            wrong++;
            System.out.println((heading.isEmpty() ? "" : heading + "\n  ") + what + " answered " + got + ", due is " + want);
        }
    }

    /** Ends the test; given the document, it looks too whether all sentences are the document's. */
    static void end(String[] args) throws IOException {
        for (String document : args) {
            String words = plain(Files.readString(Path.of(document)));
            for (String sentence : SENTENCES) {
                if (!words.contains(plain(sentence))) {
                    wrong++;
                    System.out.println("not in " + document + ": " + sentence);
                }
            }
        }
        System.out.println(SENTENCES.size() + " sentences, " + asked + " answers, " + wrong + " wrong");
        if (wrong != 0) {
            System.exit(1);
        }
    }

    private static String plain(String text) {
        return text.replaceAll("\\s+", " ");
    }

    static WordHides ofSide(int side) {
        WordHides x = new WordHides();
        x.side(side);
        return x;
    }

    static WordHides withWords(int side, String... words) {
        WordHides x = ofSide(side);
        for (String word : words) {
            take(x, 0, word);
        }
        return x;
    }

    static void spell(WordHides x, String text) {
        for (int i = 0; i < text.length(); i++) {
            x.say(text.charAt(i));
        }
    }

    static int take(WordHides x, int kind, String text) {
        spell(x, text);
        return x.take(kind);
    }

    /** Sets all cells; a point is an EMPTY one. */
    static void paint(WordHides x, String cells) {
        for (int cell = 0; cell < cells.length(); cell++) {
            x.set(cell, cells.charAt(cell) == '.' ? 0 : cells.charAt(cell));
        }
    }

    static int place(int cell, int way) {
        return 8 * cell + way;
    }

    /** The cells that there are, in their order; a point is an EMPTY one. */
    static String cells(WordHides x) {
        StringBuilder cells = new StringBuilder();
        for (int cell = 0; cell < 20 && x.at(cell) != UNKNOWN; cell++) {
            cells.append(x.at(cell) == NONE ? '.' : (char) x.at(cell));
        }
        return cells.toString();
    }

    /** The cells as good(100) and more tell them; a point is one that there is not. */
    static String filled(WordHides x) {
        StringBuilder cells = new StringBuilder();
        for (int cell = 0; cell < 16; cell++) {
            cells.append(x.good(100 + cell) == NONE ? '.' : (char) x.good(100 + cell));
        }
        return cells.toString();
    }

    /** A word, a barred one or the rest, letter by letter. */
    static String text(WordHides x, int kind, int number) {
        StringBuilder text = new StringBuilder();
        for (int i = 0; i < x.letter(kind, number, -1); i++) {
            text.append((char) x.letter(kind, number, i));
        }
        return text.toString();
    }

    /** The places at which a word stands. */
    static String standing(WordHides x, int kind, int number) {
        List<Integer> places = new ArrayList<>();
        for (int i = 0; i < x.stands(kind, number, -1); i++) {
            places.add(x.stands(kind, number, i));
        }
        return places.toString();
    }

    /** All that can be asked without a change. */
    static String shown(WordHides x) {
        StringBuilder all = new StringBuilder(cells(x));
        for (int what = 0; what < 7; what++) {
            all.append(" count ").append(x.count(what));
        }
        for (int number = 0; number < 3; number++) {
            all.append(" word ").append(text(x, 0, number)).append(standing(x, 0, number));
            all.append(" fits ").append(x.fits(number, 0)).append(' ').append(x.fits(number, 1));
            all.append(" barred ").append(text(x, 1, number)).append(standing(x, 1, number));
        }
        all.append(" rest ").append(text(x, 2, 0));
        for (int what : new int[] {0, 1, 2, 10, 11, 12}) {
            all.append(" most ").append(x.most(what));
        }
        for (int what : new int[] {0, 10, 11, 12}) {
            all.append(" good ").append(x.good(what));
        }
        return all.append(' ').append(filled(x)).toString();
    }

    /** All that an object holds, the pad and the images too; it is not as it was then. */
    static String emptied(WordHides x) {
        StringBuilder all = new StringBuilder(shown(x));
        for (int signs = x.count(4); signs < 16; signs++) {
            x.say('q');
        }
        x.side(4);
        x.fill();
        all.append(" pad ").append(cells(x));
        for (int k = 0; k < 2; k++) {
            all.append(" image ").append(x.restore(k)).append(' ').append(shown(x));
        }
        return all.toString();
    }
}
