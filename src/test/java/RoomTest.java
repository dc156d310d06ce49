import com.sun.management.ThreadMXBean;
import java.lang.management.ManagementFactory;

/**
 * The room of a run of 512 calls: its dearest runs stay far below 600,000 objects and 7.3 million elements; questions
 * and acts make nothing. What is measured are the bytes that this thread has taken: no object takes fewer than 16, no
 * element of the program's rows fewer than 4.
 */
final class RoomTest {
    private static final long MOST_BYTES = Math.min(600_000L * 16, 7_300_000L * 4);
    private static final int CALLS = 512;
    private static final int LINES = 20;
    private static final int MOST_CHANGES = 60;
    /** The calls of full(), and some more. */
    private static final int CALLS_OF_FULL = 200;
    private static final Due DUE = new Due();
    private static final ThreadMXBean THREADS = (ThreadMXBean) ManagementFactory.getThreadMXBean();

    /** Kept, so that no call is left out as one whose answer nobody wants. */
    private static int answers;

    public static void main(String[] args) {
        if (!THREADS.isThreadAllocatedMemorySupported() || !THREADS.isThreadAllocatedMemoryEnabled()) {
            System.out.println("this host does not tell the room of a run");
            return;
        }
        // The first time takes room for the host's own loading of classes.
        runs();
        asks(full());
        below("readings", readings());
        below("changes", changes());
        below("images", images());
        KnowHouse x = full();
        long before = taken();
        asks(x);
        long after = taken();
        DUE.is("bytes that questions, acts and calls without a new LINE take", after - before, 0);
        DUE.end();
    }

    private static void runs() {
        readings();
        changes();
        images();
    }

    private static long taken() {
        return THREADS.getThreadAllocatedBytes(Thread.currentThread().getId());
    }

    private static void below(String what, long bytes) {
        DUE.is(what + ": " + bytes + " bytes are fewer than a third of " + MOST_BYTES,
                bytes > 0 && bytes < MOST_BYTES / 3 ? 1 : 0, 1);
    }

    /** Full LINES, so that each READING makes rows of eight MARKS. */
    private static long readings() {
        long before = taken();
        KnowHouse x = Made.with(2, 99);
        int calls = 2 + LINES + 1;
        Made.lines(x, 0, 0, LINES);
        for (; calls < CALLS; calls++) {
            answers += x.read(1, 0, 0, LINES - 1);
        }
        return taken() - before;
    }

    /** From a SHEET, a CHANGE takes two calls; restored, there is room for more than sixty. */
    private static long changes() {
        long before = taken();
        KnowHouse x = Made.with(2, 99);
        x.sheet(0, 2, LINES);
        x.sheet(1, 2, LINES);
        for (int i = 0; i < LINES; i++) {
            x.cell(0, i, 10 + i * 10);
            x.cell(1, i, 5000 + i * 10);
        }
        x.image();
        int made = 0;
        for (int calls = 5 + 2 * LINES; calls + 3 <= CALLS; calls += 2) {
            if (made > 0 && made % MOST_CHANGES == 0) {
                x.restore();
                calls++;
            }
            x.come(made % 2, 2);
            DUE.is("a CHANGE is made", x.change(3, 0, 0, 1), made % MOST_CHANGES);
            made++;
        }
        return taken() - before;
    }

    private static long images() {
        long before = taken();
        KnowHouse x = full();
        for (int calls = CALLS_OF_FULL; calls < CALLS; calls++) {
            answers += calls % 2 == 0 ? x.image() : x.restore();
        }
        return taken() - before;
    }

    /** Eight PEOPLE, six FILES of twenty LINES with eight MARKS each, in which TASKS may be found. */
    private static KnowHouse full() {
        KnowHouse x = Made.with(8, 99);
        for (int f = 0; f < 6; f++) {
            Made.lines(x, f, f, LINES);
            for (int p = 0; p < 7; p++) {
                x.read((f + p) % 8, f, 0, LINES - 1);
            }
        }
        Made.change(x, 1, 0, 0, 0, 100);
        Made.change(x, 3, 1, 0, 1, 100);
        x.back(0, 0);
        Made.change(x, 5, 2, 0, 0, 100);
        x.sheet(0, 0, 40);
        x.sheet(1, 1, 40);
        return x;
    }

    private static void asks(KnowHouse x) {
        for (int many = 1; many <= 3; many++) {
            for (int p = -1; p < 8; p++) {
                answers += x.plan(many, p);
            }
        }
        for (int f = 0; f < 6; f++) {
            for (int p = 0; p < 8; p++) {
                answers += x.points(p, f, 0) + x.knows(p, f) + x.able(p, f) + x.sum(p, -1) + x.here(p, true);
            }
            answers += x.lines(f) + x.line(f, 0, 2) + x.mark(f, 0, 0, 1) + x.lone(f) + x.changeTold(f, 7);
            answers += x.act(f, f % 4, 9) + x.trace(f) + x.count(f) + x.count(6) + x.forge(f, 1, f);
        }
        answers += x.lost(3) + x.cover() + x.day(1) + x.share(60) + x.text(10) + x.wipe() + x.status();
        answers += x.sheet(2, 2, 20) + x.cell(2, 0, 10) + x.come(2, 2) + x.image() + x.restore();
    }
}
