import java.lang.management.ManagementFactory;

/** All calls of an object fit into one room that is never cleared: what they make is counted, in bytes. */
public final class RoomTest {
    private static final com.sun.management.ThreadMXBean THREADS =
        (com.sun.management.ThreadMXBean) ManagementFactory.getThreadMXBean();

    public static void main(String[] args) {
        // once before, for what the virtual machine makes for itself
        use();
        long before = made();
        PotentialBench x = new PotentialBench();
        long atFirst = made() - before;
        before = made();
        use();
        long used = made() - before;
        System.out.println("RoomTest: a new object " + atFirst + " bytes, with 500 dear calls " + used);
        Check.due("a new object is small", atFirst < 200_000, true);
        Check.due("500 dear calls make little", used < 2_000_000, true);
        Check.due("look", x.look(), 0);
        Check.end("RoomTest");
    }

    private static long made() {
        return THREADS.getThreadAllocatedBytes(Thread.currentThread().getId());
    }

    /** Bounds of the largest table, the longest runs, and all that is told of them. */
    private static void use() {
        PotentialBench x = new PotentialBench();
        for (int f = 0; f < 2; f++) {
            x.function(3 - 2 * f);
        }
        for (int f = 0; f < 2; f++) {
            for (int i = 0; i < 13; i++) {
                Check.words(x, f, 6, 5, 1, 0);
            }
            Check.words(x, f, 5, 1, 0);
        }
        Check.due("look", x.look(), 0);
        for (int i = 0; i < 70; i++) {
            Check.due("bound", x.bound(i % 2), 1);
            Check.due("conditions", x.told(1), 90);
            x.scaled(3, 40);
            x.covers(1, 2, 3, 4);
        }
        x.cut(0, 0);
        x.cut(1, 0);
        Check.words(x, 0, 3, 0, 0, 6, 5, 0, 3, 5, 0, 3);
        x.cut(0, 3);
        Check.words(x, 0, 6, 5, 0, 3, 1, 2, 5, 0, 3, 1, 2);
        Check.words(x, 1, 0);
        for (int i = 0; i < 20; i++) {
            Check.due("run", x.run(0, 40, 0, 0), 1);
            Check.due("steps", x.steps(), 20000);
        }
    }
}
