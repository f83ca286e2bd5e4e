import java.io.IOException;
import java.util.function.Supplier;
import java.util.function.ToIntFunction;

/**
 * What calls change, seen whole: what is refused changes nothing, what only asks changes nothing, and what
 * is told is never what was so before. Objects are compared with others that were made in the same way.
 */
public final class RefusalsTest extends Bench {
    public static void main(String[] args) throws IOException {
        about("Terms", "What is refused changes nothing.");
        refusedWithFullPad();
        refusedWithShortPad();
        refusedOnSmallSquare();
        refusedOnNewObject();
        about("Terms", "All that is told is as things are when it is asked.");
        askingChangesNothing();
        askedBetweenChanges();
        end(args);
    }

    /** One call on a new object of a kind: its answer, and whether all is as without it. */
    private static void unchanged(String name, Supplier<WordHides> maker, ToIntFunction<WordHides> call, int want) {
        WordHides x = maker.get();
        due(name, call.applyAsInt(x), want);
        same(name + ": all behind it", emptied(x), emptied(maker.get()));
    }

    /** All words there can be, an image, 16 signs on the pad; a barred word stands, so none is good. */
    private static WordHides withFullPad() {
        WordHides x = new WordHides();
        x.set(7, 'h');
        take(x, 0, "hij");
        x.image(0);
        x.drop(0);
        take(x, 0, "abc");
        take(x, 0, "cde");
        take(x, 0, "efgh");
        take(x, 1, "xy");
        take(x, 1, "zz");
        take(x, 1, "pqr");
        take(x, 2, "mno");
        paint(x, "ab.." + "...." + "...." + "..zz");
        spell(x, SIXTEEN);
        return x;
    }

    private static WordHides withShortPad() {
        WordHides x = withFullPad();
        x.wipe();
        spell(x, "uvw");
        return x;
    }

    private static WordHides onSmallSquare() {
        WordHides x = withFullPad();
        x.side(3);
        paint(x, "ab......z");
        return x;
    }

    private static void refusedWithFullPad() {
        Supplier<WordHides> maker = RefusalsTest::withFullPad;
        unchanged("side(2)", maker, x -> x.side(2), OUTSIDE);
        unchanged("side(5)", maker, x -> x.side(5), OUTSIDE);
        unchanged("set(-1, a)", maker, x -> x.set(-1, 'a'), UNKNOWN);
        unchanged("set(16, a)", maker, x -> x.set(16, 'a'), UNKNOWN);
        unchanged("set(0, 96)", maker, x -> x.set(0, 96), OUTSIDE);
        unchanged("set(0, 123)", maker, x -> x.set(0, 123), OUTSIDE);
        unchanged("set(0, -1)", maker, x -> x.set(0, -1), OUTSIDE);
        unchanged("at(16)", maker, x -> x.at(16), UNKNOWN);
        unchanged("say(a), 16 signs", maker, x -> x.say('a'), FULL);
        unchanged("say(123)", maker, x -> x.say(123), OUTSIDE);
        unchanged("take(-1)", maker, x -> x.take(-1), OUTSIDE);
        unchanged("take(3)", maker, x -> x.take(3), OUTSIDE);
        unchanged("take(0) of 16", maker, x -> x.take(0), FAULT);
        unchanged("take(1) of 16", maker, x -> x.take(1), FAULT);
        unchanged("take(2) of 16", maker, x -> x.take(2), FAULT);
        unchanged("drop(-1)", maker, x -> x.drop(-1), OUTSIDE);
        unchanged("drop(2)", maker, x -> x.drop(2), OUTSIDE);
        unchanged("letter(3, 0, 0)", maker, x -> x.letter(3, 0, 0), OUTSIDE);
        unchanged("letter(0, 3, 0)", maker, x -> x.letter(0, 3, 0), UNKNOWN);
        unchanged("stands(2, 0, 0)", maker, x -> x.stands(2, 0, 0), OUTSIDE);
        unchanged("stands(0, 3, 0)", maker, x -> x.stands(0, 3, 0), UNKNOWN);
        unchanged("put(3, 0)", maker, x -> x.put(3, 0), UNKNOWN);
        unchanged("put(0, -1)", maker, x -> x.put(0, -1), OUTSIDE);
        unchanged("put(0, 128)", maker, x -> x.put(0, 128), OUTSIDE);
        unchanged("put over the edge", maker, x -> x.put(0, place(6, 0)), NO);
        unchanged("put, the last cell has another letter", maker, x -> x.put(2, place(12, 0)), NO);
        unchanged("fits(3, 0)", maker, x -> x.fits(3, 0), UNKNOWN);
        unchanged("fits(0, 2)", maker, x -> x.fits(0, 2), OUTSIDE);
        unchanged("most(3)", maker, x -> x.most(3), OUTSIDE);
        unchanged("covers, the last is none", maker, x -> x.covers(0, place(2, 2), 128), OUTSIDE);
        unchanged("covers, the last does not fit", maker, x -> x.covers(0, place(2, 2), place(10, 0)), NO);
        unchanged("covers, the last is unlike", maker, x -> x.covers(0, place(2, 2), place(8, 0)), NO);
        unchanged("good(1)", maker, x -> x.good(1), OUTSIDE);
        unchanged("hide(), none good", maker, x -> x.hide(), NO);
        unchanged("image(-1)", maker, x -> x.image(-1), OUTSIDE);
        unchanged("image(2)", maker, x -> x.image(2), OUTSIDE);
        unchanged("restore(-1)", maker, x -> x.restore(-1), OUTSIDE);
        unchanged("restore(2)", maker, x -> x.restore(2), OUTSIDE);
        unchanged("restore(1), nothing kept", maker, x -> x.restore(1), STATE);
        unchanged("count(7)", maker, x -> x.count(7), OUTSIDE);
    }

    private static void refusedWithShortPad() {
        Supplier<WordHides> maker = RefusalsTest::withShortPad;
        unchanged("take(0), 3 words", maker, x -> x.take(0), FULL);
        unchanged("take(1), 3 barred words", maker, x -> x.take(1), FULL);
        unchanged("take(3)", maker, x -> x.take(3), OUTSIDE);
        unchanged("fill() of 3", maker, x -> x.fill(), FAULT);
        unchanged("say(96)", maker, x -> x.say(96), OUTSIDE);
    }

    private static void refusedOnSmallSquare() {
        Supplier<WordHides> maker = RefusalsTest::onSmallSquare;
        unchanged("side 3: side(2)", maker, x -> x.side(2), OUTSIDE);
        unchanged("side 3: set(9, a)", maker, x -> x.set(9, 'a'), UNKNOWN);
        unchanged("side 3: at(9)", maker, x -> x.at(9), UNKNOWN);
        unchanged("side 3: fill() of 16", maker, x -> x.fill(), FAULT);
        unchanged("side 3: put(0, 72)", maker, x -> x.put(0, 72), OUTSIDE);
        unchanged("side 3: put of four letters", maker, x -> x.put(2, 0), NO);
        unchanged("side 3: covers, no place", maker, x -> x.covers(0, 18, 72), OUTSIDE);
        unchanged("side 3: covers, four letters", maker, x -> x.covers(0, 18, 0), NO);
        unchanged("side 3: hide(), no laying", maker, x -> x.hide(), NO);
    }

    private static void refusedOnNewObject() {
        Supplier<WordHides> maker = WordHides::new;
        unchanged("new: take(0)", maker, x -> x.take(0), FAULT);
        unchanged("new: take(1)", maker, x -> x.take(1), FAULT);
        unchanged("new: take(2)", maker, x -> x.take(2), FAULT);
        unchanged("new: fill()", maker, x -> x.fill(), FAULT);
        unchanged("new: put(0, 0)", maker, x -> x.put(0, 0), UNKNOWN);
        unchanged("new: restore(0)", maker, x -> x.restore(0), STATE);
        unchanged("new: restore(1)", maker, x -> x.restore(1), STATE);
        unchanged("new: image(2)", maker, x -> x.image(2), OUTSIDE);
    }

    private static void askingChangesNothing() {
        for (int time = 0; time < 2; time++) {
            WordHides x = time == 0 ? withFullPad() : onSmallSquare();
            String before = shown(x);
            same("asked again", shown(x), before);
            x.covers(0, 18, 0);
            x.covers(0, 18, place(8, 0));
            same("asked behind covers", shown(x), before);
            same("all", emptied(x), emptied(time == 0 ? withFullPad() : onSmallSquare()));
        }
    }

    /** The same changes on two objects, of which one is asked all behind each: they tell the same. */
    private static void askedBetweenChanges() {
        String[] names = {
            "take(0)", "another word", "set", "take(2)", "take(1)", "image(0)", "drop(1)", "put", "side(3)", "side(4)",
            "restore(0)", "drop(1) again", "set to EMPTY", "hide", "fill", "drop(0)", "restore(0) again"};
        WordHides asked = new WordHides();
        String before = shown(asked);
        for (int step = 0; step < names.length; step++) {
            change(asked, step);
            String now = shown(asked);
            WordHides unasked = new WordHides();
            for (int earlier = 0; earlier <= step; earlier++) {
                change(unasked, earlier);
            }
            same(names[step], now, shown(unasked));
            // A step that changes nothing that is told would test nothing.
            due(names[step] + ": something else is told", now.equals(before) ? 0 : 1, 1);
            before = now;
        }
    }

    private static void change(WordHides x, int step) {
        switch (step) {
            case 0: take(x, 0, "abc"); break;
            case 1: take(x, 0, "cde"); break;
            case 2: x.set(0, 'z'); break;
            case 3: take(x, 2, "mn"); break;
            case 4: take(x, 1, "zm"); break;
            case 5: x.image(0); break;
            case 6: x.drop(1); break;
            case 7: x.put(0, place(1, 0)); break;
            case 8: x.side(3); break;
            case 9: x.side(4); break;
            case 10: x.restore(0); break;
            case 11: x.drop(1); break;
            case 12: x.set(0, 0); break;
            case 13: x.hide(); break;
            case 14: spell(x, "zzzzabczzzdzzzze"); x.fill(); break;
            case 15: x.drop(0); break;
            default: x.restore(0); break;
        }
    }
}
