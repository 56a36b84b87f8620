import java.lang.management.ManagementFactory;

/** Makes the dearest calls of a run, 512 of each, and counts what they leave in the room: nothing is due. */
public final class RoomTest {
    private static final int CALLS = 512;
    // The measuring itself may make a few objects; one int a call would show.
    private static final long SPARE = 2000;

    public static void main(String[] args) {
        Checks checks = new Checks();
        com.sun.management.ThreadMXBean threads =
            (com.sun.management.ThreadMXBean) ManagementFactory.getThreadMXBean();
        ParoleCache x = fullCache();
        go(x, 0);
        long before = threads.getThreadAllocatedBytes(Thread.currentThread().getId());
        for (int call = 0; call < 6; call++) {
            go(x, call);
        }
        long after = threads.getThreadAllocatedBytes(Thread.currentThread().getId());
        checks.due("bytes that the calls took, beyond " + SPARE, 0, Math.max(0, after - before - SPARE));
        checks.close("RoomTest");
    }

    private static ParoleCache fullCache() {
        ParoleCache x = new ParoleCache();
        x.shape(8, 4);
        for (int i = 0; i < 6; i++) {
            x.addHelper(i % 3, 4, 9);
        }
        for (int i = 0; i < 27; i++) {
            x.type('a');
            x.type((char) ('0' + i % 10));
            if (i < 26) {
                x.type(',');
            }
        }
        x.keep();
        return x;
    }

    private static void go(ParoleCache x, int call) {
        for (int i = 0; i < CALLS; i++) {
            switch (call) {
                case 0: x.walk(i % 16, i, 3, 30); break;
                case 1: x.wouldHit(i % 16, i, 3, 30); break;
                case 2: x.wouldAsk(i % 6, i % 16, i, 0); break;
                case 3: x.run(); break;
                case 4: x.restore(); x.undo(); break;
                default: x.flush(); x.access(i % 16, i); x.keep(); break;
            }
        }
    }
}
