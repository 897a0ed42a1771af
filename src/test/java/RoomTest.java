import com.sun.management.ThreadMXBean;
import java.lang.management.ManagementFactory;

/** A new object is small, and no call makes an object, so that all calls of a run fit into their room. */
public final class RoomTest {
    private static final ThreadMXBean THREADS = (ThreadMXBean) ManagementFactory.getThreadMXBean();
    private static final long SMALL = 64 * 1024;

    public static void main(String[] args) {
        everyCall(new AdmissionControl(), 0); // so that loading the classes is not counted
        long before = taken();
        AdmissionControl x = new AdmissionControl();
        Check.holds("a new object is small", taken() - before < SMALL);
        before = taken();
        long sum = 0;
        for (int round = 0; round < 60; round++) {
            sum += everyCall(x, round);
        }
        long bytes = taken() - before;
        Check.holds("the calls made nothing, not " + bytes + " bytes (" + sum + ")", bytes < SMALL);
        Check.end("RoomTest");
    }

    private static long taken() {
        return THREADS.getThreadAllocatedBytes(Thread.currentThread().getId());
    }

    private static long everyCall(AdmissionControl x, int round) {
        long sum = x.set(3, 4) + x.setClass(0, 0, 1 + round % 9) + x.offer(round % 3, round % 5, 60) + x.advance(1);
        sum += x.append('+') + x.append('1') + x.fault() + x.run() + x.clearText() + (round % 5 == 0 ? x.undo() : 0);
        sum += x.setting(0) + x.classSetting(0, 0) + x.clock() + x.estimate(0) + x.tokens(0) + x.pass(0) + x.queued(0);
        sum += x.queuedAt(0, 0) + x.backlog(0) + x.worked(0) + x.refused(0, 1) + x.idle() + (long) x.workShare(0);
        sum += x.requests() + x.state(0) + x.price(0) + x.done(0) + x.offers(0) + x.reason(0) + x.when(0);
        return sum + x.wouldRefuse(0, 0) + x.ticksLeft() + x.ticksIf(1) + x.leastCapacity() + x.finish(0);
    }
}
