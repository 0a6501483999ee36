import com.sun.management.ThreadMXBean;
import java.lang.management.ManagementFactory;

/**
 * The dearest runs stay far inside the room: an object takes 16 bytes or more and every field and
 * element of WishRoutes 4 or more (a boolean beside ints fills up to 4), so 8 million bytes are fewer
 * than 500,000 objects and 2 million elements.
 */
final class RoomTest {
    private static final long LIMIT = 8_000_000L;
    private static final int CALLS = 512;

    private static final ThreadMXBean THREADS = (ThreadMXBean) ManagementFactory.getThreadMXBean();

    private RoomTest() {
    }

    public static void main(String[] args) {
        for (int round = 0; round < 2; round++) {
            within("making objects", RoomTest::makeObjects);
            within("wishes along a line", RoomTest::wishAlongALine);
            within("links and cuts", RoomTest::linkAndCut);
            within("notices to all", RoomTest::noticesToAll);
            within("moves and deliveries", RoomTest::moveAndDeliver);
        }
        Check.end();
    }

    private static void within(String name, Runnable run) {
        long before = THREADS.getThreadAllocatedBytes(Thread.currentThread().getId());
        run.run();
        long taken = THREADS.getThreadAllocatedBytes(Thread.currentThread().getId()) - before;
        Check.due(name + " took " + taken + " bytes; within " + LIMIT, taken <= LIMIT, true);
    }

    private static void makeObjects() {
        for (int i = 0; i < CALLS; i++) {
            new WishRoutes().desk();
        }
    }

    private static void wishAlongALine() {
        WishRoutes x = tree(true);
        x.reader(0);
        for (int i = 0; i < 150; i++) {
            x.among(i % 4, i);
            x.wish(0);
            x.all();
        }
    }

    private static void linkAndCut() {
        WishRoutes x = tree(false);
        for (int i = 0; i < 24; i++) {
            x.reader(i % 12);
            x.test(0, 1, i, i);
            x.wish(i);
        }
        for (int i = 0; i < 130; i++) {
            int d = 1 + i % 11;
            x.cut(0, d);
            x.link(d, 0);
            x.all();
        }
    }

    private static void noticesToAll() {
        WishRoutes x = tree(false);
        for (int i = 0; i < 24; i++) {
            x.reader(i % 12);
            x.wish(i);
        }
        for (int i = 0; i < 210; i++) {
            x.all();
            x.send(i % 12, i, i, i, i);
        }
    }

    private static void moveAndDeliver() {
        WishRoutes x = tree(true);
        x.reader(0);
        for (int i = 0; i < 80; i++) {
            x.test(0, 1, i, i);
            x.wish(0);
        }
        for (int i = 0; i < 160; i++) {
            x.move(0, i % 2 == 0 ? 11 : 0);
            x.all();
        }
    }

    /** Twelve desks in a line or around the first. */
    private static WishRoutes tree(boolean line) {
        WishRoutes x = new WishRoutes();
        for (int d = 0; d < 12; d++) {
            x.desk();
            x.link(line ? d - 1 : 0, d);
        }
        return x;
    }
}
