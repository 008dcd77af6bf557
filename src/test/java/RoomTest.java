import java.lang.management.ManagementFactory;

/**
 * A run's calls share one room of 7.3 million fields and elements in 600,000 objects. Only the
 * constructor and the exceptions may take from it, so the dearest calls must take next to nothing.
 */
public final class RoomTest {
    private static final long OBJECT_LIMIT = 200_000;
    private static final long CALLS_LIMIT = 50_000;

    private static final com.sun.management.ThreadMXBean threads =
            (com.sun.management.ThreadMXBean) ManagementFactory.getThreadMXBean();

    public static void main(String[] args) {
        run();
        long start = taken();
        ViewMaintainer x = new ViewMaintainer();
        long made = taken();
        dearCalls(x);
        long called = taken();
        System.out.println("an object takes " + (made - start) + " bytes, its calls " + (called - made));
        if (made - start > OBJECT_LIMIT || called - made > CALLS_LIMIT) {
            System.out.println("that is too much");
            System.exit(1);
        }
    }

    /** Loads the classes first, so that their loading is not counted. */
    private static void run() {
        taken();
        dearCalls(new ViewMaintainer());
    }

    private static long taken() {
        return threads.getThreadAllocatedBytes(Thread.currentThread().getId());
    }

    private static void dearCalls(ViewMaintainer x) {
        for (int i = 0; i < 40; i++) {
            x.insertLeft(4, i % 6, 99 - i);
        }
        x.apply();
        for (int i = 0; i < 20; i++) {
            x.insertLeft(4, i % 6, 1 + i);
        }
        for (int factor = -9; factor <= 9; factor++) {
            x.insertRight(4, factor);
        }
        x.apply();
        x.save();
        for (int i = 0; i < 30; i++) {
            x.rollback();
            x.apply();
            x.appendCharacter('p');
            x.appendCharacter('>');
            x.appendCharacter('-');
            x.appendCharacter('9');
            x.setFilter();
            x.clearFilter();
            x.restore();
            x.groupElement(0, 9);
            x.groupDistinct(1);
            x.rankedGroup(0);
            x.danglingCount();
            x.apply();
        }
    }
}
