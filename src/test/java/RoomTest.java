import java.lang.management.ManagementFactory;

/**
 * All calls of one run share one room of some 7.3 million fields and elements: an object is small, and its calls make
 * nothing (but that the first keep in a slot makes what the slot keeps).
 */
public final class RoomTest {
    private static final int CALLS = 512;
    private static PlayoutBuffer held;

    public static void main(String[] args) {
        var threads = (com.sun.management.ThreadMXBean) ManagementFactory.getThreadMXBean();
        dearCalls(new PlayoutBuffer());
        PlayoutBuffer x = new PlayoutBuffer();
        x.keep(0);
        x.keep(1);
        long before = threads.getCurrentThreadAllocatedBytes();
        dearCalls(x);
        long calls = threads.getCurrentThreadAllocatedBytes() - before;
        Due.due("the calls make nothing, made " + calls + " bytes", calls < 10_000 ? 1 : 0, 1);
        before = threads.getCurrentThreadAllocatedBytes();
        for (int i = 0; i < CALLS / 4; i++) {
            held = new PlayoutBuffer();
            held.keep(0);
            held.keep(1);
        }
        long object = (threads.getCurrentThreadAllocatedBytes() - before) / (CALLS / 4);
        Due.due("an object is small, was " + object + " bytes", object < 40_000 ? 1 : 0, 1);
        Due.end();
    }

    private static void dearCalls(PlayoutBuffer x) {
        x.setFrame(4);
        x.setBlock(2, 2);
        for (int i = 0; i < 38; i++) {
            x.arrive(3 * i);
            x.arriveParity(true, i, 1);
            x.unrestorable(i);
            x.ticksToGap();
            x.gapsIn(1000);
            x.ticksToFrame(999);
            x.append('d');
            x.faultPosition();
            x.schedule();
            x.advance(20);
            x.checksum();
            x.keep(i % 2);
            x.restore(0);
        }
    }
}
