import java.lang.management.ManagementFactory;

/**
 * What a run takes of its room, in bytes: some 600,000 objects and 7.3 million fields and elements are there for all
 * calls together, and nothing is given back. An element is 4 bytes at the least, so bytes by 4 are never too few.
 */
public final class RoomTest {
    private static final com.sun.management.ThreadMXBean THREADS =
            (com.sun.management.ThreadMXBean) ManagementFactory.getThreadMXBean();
    private static int wrong = 0;

    public static void main(String[] args) {
        dearest(new CrissMerger());
        long before = taken();
        CrissMerger x = new CrissMerger();
        long made = taken() - before;
        most("a new object", made, 60_000);
        before = taken();
        dearest(x);
        // three kept BOOKS, once each
        most("512 calls", taken() - before, 3 * 25_000);
        System.out.println("RoomTest: " + wrong + " wrong");
        if (wrong != 0) {
            System.exit(1);
        }
    }

    private static long taken() {
        return THREADS.getThreadAllocatedBytes(Thread.currentThread().getId());
    }

    private static void most(String what, long bytes, long limit) {
        System.out.println(what + ": " + bytes + " bytes");
        if (bytes > limit) {
            wrong++;
            System.out.println(what + " takes more than " + limit);
        }
    }

    private static void dearest(CrissMerger x) {
        x.text(0, 18);
        for (int i = 0; i < 18; i++) {
            x.put(0, i, i % 9 == 0 ? 'a' + i / 9 : '0' + i % 9);
        }
        x.book(0);
        for (int i = 0; i < 48; i++) {
            x.keep(i % 3);
            x.undo(1);
            x.lots(10, 12345 + i);
            x.lots(10, 54321 + i);
            x.merge(x.count(0) - 1, x.count(0) - 2);
            x.mirrored(3, 4);
            x.common(4, 5, 0, 0);
            x.digest();
            x.odds(x.count(0) - 1, 0);
            x.on(i % 3);
        }
    }
}
