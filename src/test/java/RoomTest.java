import java.lang.management.ManagementFactory;

/** All calls of a run live in one room of some 600,000 objects and 7.3 million fields and elements. */
public final class RoomTest {
    private static final int CALLS = 512;
    // An object takes 16 bytes or more and an element one or more, so that in fewer bytes than these no more can be made.
    private static final long MOST_BYTES_OF_A_RUN = 7_300_000;

    public static void main(String[] args) {
        com.sun.management.ThreadMXBean bean = (com.sun.management.ThreadMXBean) ManagementFactory.getThreadMXBean();
        long thread = Thread.currentThread().getId();
        run();
        long before = bean.getThreadAllocatedBytes(thread);
        run();
        long bytes = bean.getThreadAllocatedBytes(thread) - before;
        System.out.println("a run makes " + bytes + " bytes");
        Due.is("a run stays small", bytes < MOST_BYTES_OF_A_RUN ? 1 : 0, 1);
        Due.end("RoomTest");
    }

    private static void run() {
        CreditScroll x = new CreditScroll();
        for (int i = 0; i < 40; i++) {
            x.name(i % 8, i);
            x.cue(i, 1 + i % 30);
        }
        for (int i = 80; i < CALLS; i += 16) {
            x.blame(i % 2);
            x.bestCue(i % 40, i % 8, 0);
            x.speedFor(5);
            x.seenIf(3, 7);
            x.move(i % 40, i % 7);
            x.turn(i % 8, 40);
            x.drop(0);
            x.put(116);
            x.fault();
            x.read();
            x.undo();
            x.save(0);
            x.restore(0);
            x.count(4);
            x.group(3, 3);
            x.at(9999, 2);
        }
    }
}
