import java.lang.management.ManagementFactory;

/** What a run makes: all its calls live in one room, so calls make next to nothing. */
public final class RoomTest {
    private static final int CALLS = 512;
    private static final long MOST_BYTES_BY_OBJECT = 16_000, MOST_BYTES_BY_CALLS = 16_000;

    public static void main(String[] args) {
        if (!(ManagementFactory.getThreadMXBean() instanceof com.sun.management.ThreadMXBean meter)) {
            System.out.println("this machine does not tell what is made");
            return;
        }
        play(new WordHides());
        long before = meter.getCurrentThreadAllocatedBytes();
        WordHides x = new WordHides();
        long made = meter.getCurrentThreadAllocatedBytes();
        play(x);
        long played = meter.getCurrentThreadAllocatedBytes();
        boolean small = made - before <= MOST_BYTES_BY_OBJECT && played - made <= MOST_BYTES_BY_CALLS;
        System.out.println("an object: " + (made - before) + " bytes, its calls: " + (played - made) + " bytes");
        if (!small) {
            System.out.println("that is too much");
            System.exit(1);
        }
    }

    private static void play(WordHides x) {
        spell(x, 0, 'a', 'b', 'c');
        spell(x, 0, 'c', 'd', 'e');
        spell(x, 0, 'e', 'f', 'a');
        spell(x, 1, 'x', 'y', 'z');
        for (int call = 16; call + 8 <= CALLS; call += 8) {
            x.set(call % 16, 0);
            x.most(0);
            x.good(100);
            x.covers(0, 18, 68);
            x.stands(0, 0, -1);
            x.image(0);
            x.restore(0);
            x.hide();
        }
    }

    private static void spell(WordHides x, int kind, char... letters) {
        for (char c : letters) {
            x.say(c);
        }
        x.take(kind);
    }
}
