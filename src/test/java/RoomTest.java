import com.sun.management.ThreadMXBean;
import java.lang.management.ManagementFactory;

/** The room of a run (512 calls): rows are made with the object, and no call but the text() that reads a TEXT makes one. */
public final class RoomTest {
    private static final Due due = new Due();
    private static final ThreadMXBean THREADS = (ThreadMXBean) ManagementFactory.getThreadMXBean();
    // the room holds 7.3 million fields and elements; an object and its TEXTS take a small part of it
    private static final int MOST_BYTES = 100_000, BYTES_A_TEXT = 2_000, MOST_CALLS = 512, TEXTS = 5;
    // what the machine may make beside it
    private static final int MACHINE_BYTES = 1_000;

    private RoomTest() {
    }

    public static void main(String[] args) {
        due.is("allocated bytes are counted here", THREADS.isThreadAllocatedMemoryEnabled() ? 1 : 0, 1);
        run(); // what the machine itself makes when it comes to a line for the first time is not the class's
        long[] made = run();
        within("a new object", made[0], MOST_BYTES);
        within("texts", made[1], TEXTS * BYTES_A_TEXT);
        within("calls that make nothing", made[2], MACHINE_BYTES);
        due.end();
    }

    private static long made() {
        return THREADS.getThreadAllocatedBytes(Thread.currentThread().getId());
    }

    /** Bytes that a new object, its TEXTS and all its other calls make. */
    private static long[] run() {
        long first = made();
        OpenWhileItRains x = new OpenWhileItRains();
        long made = made();
        int calls = texts(x);
        long read = made();
        for (int i = 0; i < 48; i++) {
            x.set(1, i / 24 * 100 + i % 24, 9);
        }
        for (int b = 0; b < 6; b++) {
            x.bargain(b, b, b % 2);
        }
        for (int i = calls + 48 + 6; i < MOST_CALLS; i++) {
            one(x, i);
        }
        long done = made();
        return new long[] {made - first, read - made, done - read};
    }

    /** Five TEXTS of few bytes: how many calls. */
    private static int texts(OpenWhileItRains x) {
        String tape = "needs 1;takes 1;value 9;";
        for (int t = 0; t < TEXTS; t++) {
            for (int i = 0; i < tape.length(); i++) {
                x.feed(tape.charAt(i));
            }
            x.text();
        }
        return TEXTS * (tape.length() + 1);
    }

    private static void one(OpenWhileItRains x, int i) {
        switch (i % 26) {
            case 0: x.best(2); break;
            case 1: x.best(0); break;
            case 2: x.few(6); break;
            case 3: x.chance(i, 20, 40, 0); break;
            case 4: x.drawn(i); break;
            case 5: x.asks(4, 0, 4); break;
            case 6: x.sky(0, 1); break;
            case 7: x.film(0, 3, 24); break;
            case 8: x.tells(0, 3, 5); break;
            case 9: x.tells(0, 3, 33); break;
            case 10: x.sheet(1, 0, 2); break;
            case 11: x.cell(1, 1, 1); break;
            case 12: x.tour(1, 0); break;
            case 13: x.image(); break;
            case 14: x.deal(1); break;
            case 15: x.water(0); break;
            case 16: x.back(); break;
            case 17: x.count(2); break;
            case 18: x.sheet(2, 2, 40); break;
            case 19: x.copy(2, 0, 2, 1, 39); break;
            case 20: x.bargains(2, 2, 0, 6); break;
            case 21: x.taken(4, 0); break;
            case 22: x.feed('n'); break;
            case 23: x.text(); break;
            case 24: x.force(i % 6); break;
            default: x.told(0, 5); break;
        }
    }

    private static void within(String what, long bytes, long most) {
        due.is(what + ": bytes beyond " + most, Math.max(bytes - most, 0), 0);
    }
}
