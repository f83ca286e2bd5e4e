import java.util.ArrayList;
import java.util.Arrays;
import java.util.HashMap;
import java.util.List;
import java.util.Map;
import java.util.Random;

/** Runs of calls made by a fixed seed: each answer is compared with that of a plain, slow model. */
public final class ModelTest {
    private static final int RUNS = 72, CALLS = 512;
    private static final int[] ODD = {Integer.MIN_VALUE, Integer.MAX_VALUE, -2, -1, 1000};

    private final Random random;
    private final WordHides real = new WordHides();
    private final Model model = new Model();
    private final String alphabet;
    private final List<String> calls = new ArrayList<>();
    /** How many answers were no refusal (0), and how many each of -1 to -7. */
    private final int[] seen = new int[8];
    private int wrong = 0;

    private ModelTest(int seed) {
        random = new Random(seed);
        String[] alphabets = {"ab", "abc", "abcde", "abcdefghij", "az", "a"};
        alphabet = alphabets[seed % alphabets.length];
    }

    public static void main(String[] args) {
        int wrong = 0;
        int runs = args.length > 0 ? Integer.parseInt(args[0]) : RUNS;
        int[] answers = new int[8];
        for (int seed = 0; seed < runs && wrong == 0; seed++) {
            ModelTest run = new ModelTest(seed);
            run.play();
            wrong += run.wrong;
            for (int i = 0; i < 8; i++) {
                answers[i] += run.seen[i];
            }
        }
        for (int code = 1; code <= 7; code++) {
            if (answers[code] == 0) {
                wrong++;
                System.out.println("no call ever answered " + -code);
            }
        }
        System.out.println(wrong == 0 ? "the model agrees, answers " + Arrays.toString(answers) : wrong + " wrong");
        if (wrong != 0) {
            System.exit(1);
        }
    }

    private void play() {
        while (calls.size() < CALLS && wrong == 0) {
            switch (random.nextInt(12)) {
                case 0: case 1: spellAndTake(0); break;
                case 2: spellAndTake(random.nextInt(3)); break;
                case 3: spellAndFill(); break;
                case 4: call("set", cell(), random.nextInt(3) == 0 ? letter() : 0, 0); break;
                case 5: askAll(); break;
                default: anyCall(); break;
            }
        }
    }

    private void spellAndTake(int kind) {
        if (random.nextInt(4) != 0) {
            call("wipe", 0, 0, 0);
        }
        int length = random.nextInt(10) == 0 ? random.nextInt(12) : 3 + random.nextInt(2) - (kind == 0 ? 0 : random.nextInt(3));
        for (int i = 0; i < length; i++) {
            call("say", sign(), 0, 0);
        }
        call("take", kind, 0, 0);
    }

    private void spellAndFill() {
        if (random.nextInt(3) != 0) {
            return;
        }
        call("wipe", 0, 0, 0);
        int length = random.nextInt(6) == 0 ? random.nextInt(18) : model.side * model.side;
        for (int i = 0; i < length; i++) {
            call("say", sign(), 0, 0);
        }
        call("fill", 0, 0, 0);
        for (int cell = 0; cell < 16 && random.nextInt(12) != 0; cell++) {
            call("set", random.nextInt(16), 0, 0);
        }
    }

    private void askAll() {
        for (int what : new int[] {0, 1, 2, 10, 11, 12}) {
            call("most", what, 0, 0);
        }
        for (int what : new int[] {0, 10, 11, 12, 100, 107, 108, 109, 115}) {
            call("good", what, 0, 0);
        }
        for (int what = 0; what < 7; what++) {
            call("count", what, 0, 0);
        }
        for (int cell = 0; cell < 16; cell++) {
            call("at", cell, 0, 0);
        }
    }

    private void anyCall() {
        switch (random.nextInt(20)) {
            case 0: call("side", random.nextInt(4) == 0 ? near(2, 5) : 3 + random.nextInt(2), 0, 0); break;
            case 1: call("set", cell(), letter(), 0); break;
            case 2: call("at", cell(), 0, 0); break;
            case 3: call("say", letter(), 0, 0); break;
            case 4: call("wipe", 0, 0, 0); break;
            case 5: call("take", near(-1, 3), 0, 0); break;
            case 6: call("drop", random.nextInt(2) == 0 ? 1 : near(-1, 2), 0, 0); break;
            case 7: call("fill", 0, 0, 0); break;
            case 8: call("letter", near(-1, 3), near(-1, 3), near(-2, 9)); break;
            case 9: case 10: call("stands", near(0, 1), near(0, 2), near(-2, 4)); break;
            case 11: case 12: call("put", near(-1, 3), near(-1, 128), 0); break;
            case 13: call("fits", near(-1, 3), near(-1, 2), 0); break;
            case 14: call("most", near(-1, 13), 0, 0); break;
            case 15: call("covers", near(-1, 80), near(-1, 80), near(-1, 80)); coverLaying(); break;
            case 16: call("good", random.nextInt(2) == 0 ? near(-1, 13) : near(99, 116), 0, 0); break;
            case 17: if (random.nextInt(3) == 0) { call("hide", 0, 0, 0); } break;
            case 18: call("image", near(-1, 2), 0, 0); break;
            default: call("restore", near(-1, 2), 0, 0); call("count", near(-1, 7), 0, 0); break;
        }
    }

    /** Places at random hardly ever are a laying, those of one with one changed often are. */
    private void coverLaying() {
        int[] places = {model.most(10), model.most(11), model.most(12)};
        if (random.nextInt(2) == 0) {
            places[random.nextInt(3)] = random.nextInt(128);
        }
        call("covers", places[0], places[1], places[2]);
    }

    private int near(int low, int high) {
        return random.nextInt(24) == 0 ? ODD[random.nextInt(ODD.length)] : low + random.nextInt(high - low + 1);
    }

    private int cell() {
        return near(0, model.side * model.side);
    }

    private int sign() {
        return alphabet.charAt(random.nextInt(alphabet.length()));
    }

    private int letter() {
        return random.nextInt(8) == 0 ? near(95, 124) : sign();
    }

    private void call(String name, int a, int b, int c) {
        if (calls.size() >= CALLS || wrong > 0) {
            return;
        }
        int got = onReal(name, a, b, c);
        int want = onModel(name, a, b, c);
        calls.add(name + "(" + a + ", " + b + ", " + c + ") " + got);
        if (want < 0) {
            seen[-want]++;
        } else {
            seen[0]++;
        }
        if (got != want) {
            wrong++;
            calls.forEach(System.out::println);
            System.out.println("the last one should answer " + want);
        }
    }

    private int onReal(String name, int a, int b, int c) {
        switch (name) {
            case "side": return real.side(a);
            case "set": return real.set(a, b);
            case "at": return real.at(a);
            case "say": return real.say(a);
            case "wipe": return real.wipe();
            case "take": return real.take(a);
            case "drop": return real.drop(a);
            case "fill": return real.fill();
            case "letter": return real.letter(a, b, c);
            case "stands": return real.stands(a, b, c);
            case "put": return real.put(a, b);
            case "fits": return real.fits(a, b);
            case "most": return real.most(a);
            case "covers": return real.covers(a, b, c);
            case "good": return real.good(a);
            case "hide": return real.hide();
            case "image": return real.image(a);
            case "restore": return real.restore(a);
            case "count": return real.count(a);
            default: throw new IllegalArgumentException(name);
        }
    }

    private int onModel(String name, int a, int b, int c) {
        switch (name) {
            case "side": return model.side(a);
            case "set": return model.set(a, b);
            case "at": return model.at(a);
            case "say": return model.say(a);
            case "wipe": return model.wipe();
            case "take": return model.take(a);
            case "drop": return model.drop(a);
            case "fill": return model.fill();
            case "letter": return model.letter(a, b, c);
            case "stands": return model.stands(a, b, c);
            case "put": return model.put(a, b);
            case "fits": return model.fits(a, b);
            case "most": return model.most(a);
            case "covers": return model.covers(a, b, c);
            case "good": return model.good(a);
            case "hide": return model.hide();
            case "image": return model.image(a);
            case "restore": return model.restore(a);
            case "count": return model.count(a);
            default: throw new IllegalArgumentException(name);
        }
    }

    /** The document's words over texts and lists; a point is an EMPTY cell. */
    private static final class Model {
        private int side = 4;
        private String square = "................";
        private List<String> words = List.of();
        private List<String> barred = List.of();
        private String rest = "x";
        private String pad = "";
        private final Object[][] images = new Object[2][];
        private final Map<String, List<int[]>> layingsOf = new HashMap<>();
        private final Map<String, List<int[]>> goodOf = new HashMap<>();

        int side(int v) {
            if (v != 3 && v != 4) {
                return -2;
            }
            int was = side;
            side = v;
            square = ".".repeat(v * v);
            return was;
        }

        int set(int cell, int letter) {
            if (cell < 0 || cell >= square.length()) {
                return -1;
            }
            if (letter != 0 && (letter < 'a' || letter > 'z')) {
                return -2;
            }
            char was = square.charAt(cell);
            square = with(square, cell, letter == 0 ? '.' : (char) letter);
            return was == '.' ? 0 : was;
        }

        int at(int cell) {
            if (cell < 0 || cell >= square.length()) {
                return -1;
            }
            return square.charAt(cell) == '.' ? -6 : square.charAt(cell);
        }

        int say(int sign) {
            if (sign < 'a' || sign > 'z') {
                return -2;
            }
            if (pad.length() == 16) {
                return -4;
            }
            pad += (char) sign;
            return pad.length();
        }

        int wipe() {
            int had = pad.length();
            pad = "";
            return had;
        }

        int take(int kind) {
            int n = pad.length();
            if (kind != 0 && kind != 1 && kind != 2) {
                return -2;
            }
            if (kind == 0 && n != 3 && n != 4 || kind == 1 && (n < 2 || n > 4) || kind == 2 && (n < 1 || n > 9)) {
                return -7;
            }
            if (kind == 2) {
                rest = pad;
                pad = "";
                return n;
            }
            List<String> longer = new ArrayList<>(kind == 0 ? words : barred);
            if (longer.size() == 3) {
                return -4;
            }
            longer.add(pad);
            pad = "";
            if (kind == 0) {
                words = longer;
            } else {
                barred = longer;
            }
            return longer.size() - 1;
        }

        int drop(int kind) {
            if (kind != 0 && kind != 1) {
                return -2;
            }
            int had = (kind == 0 ? words : barred).size();
            if (kind == 0) {
                words = List.of();
            } else {
                barred = List.of();
            }
            return had;
        }

        int fill() {
            if (pad.length() != square.length()) {
                return -7;
            }
            int changed = 0;
            for (int i = 0; i < pad.length(); i++) {
                changed += pad.charAt(i) == square.charAt(i) ? 0 : 1;
            }
            square = pad;
            pad = "";
            return changed;
        }

        int letter(int kind, int number, int i) {
            if (kind < 0 || kind > 2 || i < -1) {
                return -2;
            }
            List<String> list = kind == 0 ? words : barred;
            if (kind != 2 && (number < 0 || number >= list.size())) {
                return -1;
            }
            String text = kind == 2 ? rest : list.get(number);
            return i == -1 ? text.length() : i < text.length() ? text.charAt(i) : -6;
        }

        int stands(int kind, int number, int i) {
            if (kind < 0 || kind > 1 || i < -1) {
                return -2;
            }
            List<String> list = kind == 0 ? words : barred;
            if (number < 0 || number >= list.size()) {
                return -1;
            }
            List<Integer> places = standing(square, list.get(number));
            return i == -1 ? places.size() : i < places.size() ? places.get(i) : -6;
        }

        int put(int number, int place) {
            if (number < 0 || number >= words.size()) {
                return -1;
            }
            if (place < 0 || place >= 8 * square.length()) {
                return -2;
            }
            String after = laid(square, words.get(number), place);
            if (after == null) {
                return -5;
            }
            int got = empty(square) - empty(after);
            square = after;
            return got;
        }

        int fits(int number, int what) {
            if (number < 0 || number >= words.size()) {
                return -1;
            }
            if (what < 0 || what > 1) {
                return -2;
            }
            String word = words.get(number);
            String board = what == 0 ? ".".repeat(square.length()) : square;
            int n = 0;
            for (int place = 0; place < 8 * square.length(); place++) {
                n += laid(board, word, place) == null ? 0 : 1;
            }
            return n;
        }

        int most(int what) {
            if (what < 0 || what > 2 && what < 10 || what > 12) {
                return -2;
            }
            List<int[]> all = layings();
            if (what == 0) {
                return all.size();
            }
            int[] best = null;
            int alike = 0;
            for (int[] laying : all) {
                if (best == null || crossed(laying) > crossed(best)) {
                    best = laying;
                    alike = 0;
                }
                alike += crossed(laying) == crossed(best) ? 1 : 0;
            }
            if (best == null) {
                return -6;
            }
            if (what == 1) {
                return crossed(best);
            }
            return what == 2 ? alike : what - 10 < best.length ? best[what - 10] : -6;
        }

        int covers(int a, int b, int c) {
            int[] places = Arrays.copyOf(new int[] {a, b, c}, words.size());
            for (int place : places) {
                if (place < 0 || place >= 8 * square.length()) {
                    return -2;
                }
            }
            if (filledCells(places) == null) {
                return -5;
            }
            int n = 0;
            for (int times : timesCovered(places)) {
                n += times > 0 ? 1 : 0;
            }
            return n;
        }

        int good(int what) {
            if (what != 0 && (what < 10 || what > 12) && (what < 100 || what > 115)) {
                return -2;
            }
            List<int[]> all = goodLayings();
            if (what == 0) {
                return all.size();
            }
            if (all.isEmpty()) {
                return -6;
            }
            int[] first = all.get(0);
            if (what <= 12) {
                return what - 10 < first.length ? first[what - 10] : -6;
            }
            return what - 100 < square.length() ? filled(first).charAt(what - 100) : -6;
        }

        int hide() {
            List<int[]> all = goodLayings();
            if (all.isEmpty()) {
                return -5;
            }
            int got = empty(filledCells(all.get(0)));
            square = filled(all.get(0));
            return got;
        }

        int image(int k) {
            if (k != 0 && k != 1) {
                return -2;
            }
            images[k] = new Object[] {side, square, words, barred, rest};
            return 1;
        }

        @SuppressWarnings("unchecked")
        int restore(int k) {
            if (k != 0 && k != 1) {
                return -2;
            }
            if (images[k] == null) {
                return -3;
            }
            side = (Integer) images[k][0];
            square = (String) images[k][1];
            words = (List<String>) images[k][2];
            barred = (List<String>) images[k][3];
            rest = (String) images[k][4];
            return 1;
        }

        int count(int what) {
            switch (what) {
                case 0: return side;
                case 1: return words.size();
                case 2: return barred.size();
                case 3: return empty(square);
                case 4: return pad.length();
                case 5: return (int) square.chars().filter(c -> c != '.').distinct().count();
                case 6: return (images[0] == null ? 0 : 1) + (images[1] == null ? 0 : 2);
                default: return -2;
            }
        }

        private static String with(String board, int cell, char letter) {
            return board.substring(0, cell) + letter + board.substring(cell + 1);
        }

        private static int empty(String board) {
            return (int) board.chars().filter(c -> c == '.').count();
        }

        /** The cells from a place's on, as many as asked, or null if there are not as many. */
        private int[] cellsFrom(int place, int length) {
            String[] moves = {"+.", "++", ".+", "-+", "-.", "--", ".-", "+-"};
            String move = moves[place % 8];
            int row = place / 8 / side;
            int column = place / 8 % side;
            int[] cells = new int[length];
            for (int i = 0; i < length; i++) {
                if (row < 0 || row >= side || column < 0 || column >= side) {
                    return null;
                }
                cells[i] = row * side + column;
                column += move.charAt(0) == '+' ? 1 : move.charAt(0) == '-' ? -1 : 0;
                row += move.charAt(1) == '+' ? 1 : move.charAt(1) == '-' ? -1 : 0;
            }
            return cells;
        }

        private List<Integer> standing(String board, String word) {
            List<Integer> places = new ArrayList<>();
            for (int place = 0; place < 8 * board.length(); place++) {
                int[] cells = board.charAt(place / 8) == word.charAt(0) ? cellsFrom(place, word.length()) : null;
                boolean same = cells != null;
                for (int i = 0; same && i < word.length(); i++) {
                    same = board.charAt(cells[i]) == word.charAt(i);
                }
                if (same) {
                    places.add(place);
                }
            }
            return places;
        }

        /** The board with a word laid at a place, or null. */
        private String laid(String board, String word, int place) {
            int[] cells = cellsFrom(place, word.length());
            if (cells == null) {
                return null;
            }
            String after = board;
            for (int i = 0; i < cells.length; i++) {
                if (after.charAt(cells[i]) != '.' && after.charAt(cells[i]) != word.charAt(i)) {
                    return null;
                }
                after = with(after, cells[i], word.charAt(i));
            }
            return after;
        }

        private String key() {
            return side + square + words + barred + rest;
        }

        private List<int[]> layings() {
            return layingsOf.computeIfAbsent(key(), k -> {
                List<int[]> found = new ArrayList<>();
                extend(new int[0], square, found);
                return found;
            });
        }

        private void extend(int[] places, String board, List<int[]> found) {
            if (places.length == words.size()) {
                found.add(places);
                return;
            }
            for (int place = 0; place < 8 * board.length(); place++) {
                String after = laid(board, words.get(places.length), place);
                if (after != null) {
                    int[] more = Arrays.copyOf(places, places.length + 1);
                    more[places.length] = place;
                    extend(more, after, found);
                }
            }
        }

        private int[] timesCovered(int[] places) {
            int[] times = new int[16];
            for (int w = 0; w < places.length; w++) {
                for (int cell : cellsFrom(places[w], words.get(w).length())) {
                    times[cell]++;
                }
            }
            return times;
        }

        private int crossed(int[] places) {
            int n = 0;
            for (int times : timesCovered(places)) {
                n += times > 1 ? 1 : 0;
            }
            return n;
        }

        /** The square with all words laid, or null if it is no laying. */
        private String filledCells(int[] places) {
            String board = square;
            for (int w = 0; w < places.length && board != null; w++) {
                board = laid(board, words.get(w), places[w]);
            }
            return board;
        }

        private String filled(int[] places) {
            StringBuilder board = new StringBuilder(filledCells(places));
            int given = 0;
            for (int cell = 0; cell < board.length(); cell++) {
                if (board.charAt(cell) == '.') {
                    board.setCharAt(cell, rest.charAt(given % rest.length()));
                    given++;
                }
            }
            return board.toString();
        }

        private List<int[]> goodLayings() {
            return goodOf.computeIfAbsent(key(), k -> {
                List<int[]> found = new ArrayList<>();
                for (int[] laying : layings()) {
                    if (isGood(filled(laying))) {
                        found.add(laying);
                    }
                }
                return found;
            });
        }

        private boolean isGood(String board) {
            for (String word : words) {
                boolean turns = new StringBuilder(word).reverse().toString().equals(word);
                if (standing(board, word).size() != (turns ? 2 : 1)) {
                    return false;
                }
            }
            for (String word : barred) {
                if (!standing(board, word).isEmpty()) {
                    return false;
                }
            }
            return true;
        }
    }
}
