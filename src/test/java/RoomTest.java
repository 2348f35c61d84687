import java.lang.management.ManagementFactory;

/** No call may take room: rows are made by the constructor and used again, for all calls of a run share one room. */
public final class RoomTest {
    private static final com.sun.management.ThreadMXBean THREADS =
            (com.sun.management.ThreadMXBean) ManagementFactory.getThreadMXBean();
    // The measuring itself takes some; 512 calls that made but one small object each would take 8192 at least.
    private static final long FREE = 4096;

    private static final String WORKS = "x0a+;j1/1;m2;t3;r4;l5;z0;x0b-;j0/5;z3;l3;t3;m3";

    private static void calls(StrandLoaves x) {
        for (int i = 0; i < 6; i++) {
            x.change(i, 2);
            x.ifChanged(i, 1);
            x.loaf(i, 5);
            x.loaf(i, 6);
            x.loose(i, 23);
            x.period(i);
        }
        for (int i = 0; i < WORKS.length(); i++) {
            x.append(WORKS.charAt(i));
        }
        x.firstError(true);
        x.work();
        x.keep();
        x.restore();
        x.undo();
        x.digest();
        x.looseShare();
    }

    public static void main(String[] args) {
        StrandLoaves x = new StrandLoaves();
        for (int i = 0; i < 6; i++) {
            Checks.lay(x, "5:" + "d+b-a+c-".repeat(5));
        }
        calls(x);
        long before = THREADS.getThreadAllocatedBytes(Thread.currentThread().getId());
        for (int i = 0; i < 64; i++) {
            calls(x);
        }
        long after = THREADS.getThreadAllocatedBytes(Thread.currentThread().getId());
        Checks.good("calls take no room (they took " + (after - before) + " bytes)", after - before < FREE);
        before = THREADS.getThreadAllocatedBytes(Thread.currentThread().getId());
        new StrandLoaves();
        after = THREADS.getThreadAllocatedBytes(Thread.currentThread().getId());
        Checks.good("an object takes little room (it took " + (after - before) + " bytes)", after - before < 100000);
        System.out.println("a new object takes " + (after - before) + " bytes");
        Checks.end("RoomTest");
    }
}
