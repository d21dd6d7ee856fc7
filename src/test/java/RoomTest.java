import com.sun.management.ThreadMXBean;
import java.lang.management.ManagementFactory;

/**
 * All calls of one run live in one room of some 600,000 objects and arrays and 7.3 million fields and
 * elements. A field or an element has a byte or more, and an object or array sixteen: a run that takes less
 * than seven million bytes stays within both.
 */
public final class RoomTest {

    private static final long ROOM = 7_000_000;
    private static final int ACCEPT = 3;
    private static final int ASK = 6;
    private static final ThreadMXBean MEMORY = (ThreadMXBean) ManagementFactory.getThreadMXBean();

    private final Probe p = new Probe();

    public static void main(String[] args) {
        RoomTest test = new RoomTest();
        test.comingUpWithALongJournal();
        test.helpingWithStates();
        test.p.end("RoomTest");
    }

    private static long taken() {
        return MEMORY.getThreadAllocatedBytes(Thread.currentThread().getId());
    }

    private void fits(String what, long before) {
        long bytes = taken() - before;
        p.due(what + " takes " + bytes + " bytes: is that too much", bytes > ROOM, false);
    }

    /** The dearest call: each time a replica comes up it makes the requests of all records. */
    private void comingUpWithALongJournal() {
        long before = taken();
        Cluster x = new Cluster(9, 16, 32, 2);
        Probe.write(x, 0, 0, 0, 1);
        Probe.tick(x, 0, 2);
        Probe.deliver(x);
        Probe.write(x, 0, 0, 0, 2);
        Probe.tick(x, 0, 1);
        int first = Probe.find(x, ACCEPT, 0, 1);
        int behind = Probe.last(x) + 1;
        while (x.journalOf(1, 0) < 47) {
            x.doubleAt(first);
            x.deliverAt(behind);
            x.loseAt(behind);
        }
        while (x.callsLeft() > 1) {
            x.turnTo(1, false);
            x.turnTo(1, true);
        }
        fits("coming up", before);
    }

    /** Each time the bytes of a whole state are made. */
    private void helpingWithStates() {
        long before = taken();
        Cluster x = Probe.led(16, 1);
        Probe.decideBehind(x);
        Probe.decideBehind(x);
        Probe.tick(x, 2, 2);
        int ask = Probe.find(x, ASK, 2, 0);
        while (x.doubleAt(ask)) {
            continue;
        }
        int helps = 0;
        while (x.callsLeft() > 0 && x.deliverAt(ask) == ASK) {
            helps++;
        }
        p.due("frames that ask for a slot that is not kept", helps, 200);
        fits("helping", before);
    }
}
