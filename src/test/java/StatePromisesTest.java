/** Promises 15 and 19 to 22: what is told of replicas and sessions. */
public final class StatePromisesTest {

    private static final Probe P = new Probe();
    private static final int NONE = SnapCluster.NONE;

    public static void main(String[] args) {
        promise15();
        promise15Roles();
        promise19();
        promise20();
        promise21();
        promise22();
        staleAcceptedOneIsDropped();
        P.end("StatePromisesTest");
    }

    private static void promise15() {
        Cluster x = Probe.led(2, 3);
        for (int i = 0; i < 4; i++) {
            Probe.decide(x, i, i, i);
        }
        int[] wanted = {1, 5, 3, 2, 3, NONE, 0, 0, 0, 3, 0, NONE, 0, NONE, 0, NONE};
        for (int what = 0; what < wanted.length; what++) {
            P.due("15: replicaOf " + what, x.replicaOf(1, what), wanted[what]);
        }
        P.due("15: what -1", x.replicaOf(1, -1), NONE);
        P.due("15: replica -1", x.replicaOf(-1, 0), NONE);
        P.due("15: replica 3", x.replicaOf(3, 0), NONE);
        x.turnTo(1, false);
        P.due("15: it is down", x.replicaOf(1, 0), 0);
        for (int what = 1; what < wanted.length; what++) {
            P.due("15: of one that is down " + what, x.replicaOf(1, what), NONE);
        }
    }

    private static void promise15Roles() {
        Cluster x = new Cluster(5, 2, 3, 2);
        Probe.write(x, 4, 1, 1, 1);
        Probe.tick(x, 1, 3);
        int[] candidate = {1, 0, 0, 0, 1, NONE, 1, 1, 2, 0, 1, NONE, 0, NONE, 0};
        for (int what = 0; what < candidate.length; what++) {
            P.due("15: of a candidate " + what, x.replicaOf(1, what), candidate[what]);
        }
        for (int i = 0; i < 6; i++) {
            x.deliverAt(0);
        }
        x.tickOf(1);
        int[] leader = {1, 0, 0, 0, 1, 1, 2, 1, 2, 1, 1, 4, 1, NONE, 0};
        for (int what = 0; what < leader.length; what++) {
            P.due("15: of a leader " + what, x.replicaOf(1, what), leader[what]);
        }
        Probe.deliver(x);
        int[] over = {1, 1, 0, 0, 1, NONE, 2, 1, 0, 1, 0, NONE, 0, NONE, 0};
        for (int what = 0; what < over.length; what++) {
            P.due("15: of a leader with nothing proposed " + what, x.replicaOf(1, what), over[what]);
        }
        P.due("15: accepted by a follower", x.replicaOf(4, 5), NONE);
    }

    private static void promise19() {
        Cluster x = Probe.led(1, 1);
        Probe.decide(x, 0, 4, -5);
        Probe.decide(x, 0, 4, Integer.MIN_VALUE);
        P.due("19: latest", x.valueAt(2, 4, 3), Integer.MIN_VALUE);
        P.due("19: at the horizon", x.valueAt(2, 4, 2), -5);
        P.due("19: another key", x.valueAt(2, 15, 2), 1);
        P.due("19: below the horizon", Probe.valueThrows(x, 2, 4, 1), true);
        P.due("19: above the index", Probe.valueThrows(x, 2, 4, 4), true);
        P.due("19: index -1", Probe.valueThrows(x, 2, 4, -1), true);
        P.due("19: far above", Probe.valueThrows(x, 2, 4, Integer.MAX_VALUE), true);
        P.due("19: key -1", Probe.valueThrows(x, 2, -1, 3), true);
        P.due("19: key 16", Probe.valueThrows(x, 2, 16, 3), true);
        P.due("19: replica -1", Probe.valueThrows(x, -1, 4, 3), true);
        P.due("19: replica 3", Probe.valueThrows(x, 3, 4, 3), true);
        x.turnTo(2, false);
        P.due("19: one that is down", Probe.valueThrows(x, 2, 4, 3), true);
    }

    private static void promise20() {
        Cluster x = Probe.led(4, 2);
        x.beginAt(3, 0, false);
        x.readKey(3, 15);
        x.writeKey(3, 2, 2);
        x.writeKey(3, 0, 2);
        x.commitIt(3);
        Probe.tick(x, 0, 1);
        Probe.deliver(x);
        int[] wanted = {3, 1, 1, 1 << 15, 5, NONE};
        for (int what = 0; what < wanted.length; what++) {
            P.due("20: slotOf " + what, x.slotOf(1, 2, what), wanted[what]);
        }
        P.due("20: what -1", x.slotOf(1, 2, -1), NONE);
        P.due("20: slot 0", x.slotOf(1, 0, 0), NONE);
        P.due("20: slot 3", x.slotOf(1, 3, 0), NONE);
        P.due("20: slot -1", x.slotOf(1, -1, 0), NONE);
        P.due("20: the first slot", x.slotOf(1, 1, 0), 15);
        P.due("20: replica -1", x.slotOf(-1, 2, 0), NONE);
        P.due("20: replica 3", x.slotOf(3, 2, 0), NONE);
        Probe.decide(x, 4, 4, 4);
        P.due("20: the oldest went", x.slotOf(1, 1, 0), NONE);
        P.due("20: two are kept", x.slotOf(1, 2, 0) * 10 + x.slotOf(1, 3, 0), 34);
        P.due("15: the slot ahead of them", x.replicaOf(1, 3), 1);
        x.turnTo(1, false);
        P.due("20: one that is down", x.slotOf(1, 3, 0), NONE);
    }

    private static void promise21() {
        Cluster x = Probe.led(4, 2);
        x.beginAt(1, 0, false);
        x.readKey(1, 0);
        x.writeKey(1, 1, 1);
        Probe.decide(x, 0, 0, 1);
        Probe.decide(x, 0, 0, 2);
        x.commitIt(1);
        Probe.tick(x, 0, 1);
        Probe.deliver(x);
        P.due("21: seq", x.knownOf(2, 0, false), 2);
        P.due("21: verdict", x.knownOf(2, 0, true), 1);
        P.due("21: seq of the aborted", x.knownOf(2, 1, false), 1);
        P.due("21: verdict of the aborted", x.knownOf(2, 1, true), 2);
        P.due("21: no seq", x.knownOf(2, 2, false), 0);
        P.due("21: no verdict", x.knownOf(2, 2, true), 0);
        P.due("21: session -1", x.knownOf(2, -1, true), NONE);
        P.due("21: session 16", x.knownOf(2, 16, false), NONE);
        P.due("21: replica -1", x.knownOf(-1, 0, true), NONE);
        P.due("21: replica 3", x.knownOf(3, 0, true), NONE);
        x.turnTo(2, false);
        P.due("21: one that is down", x.knownOf(2, 0, true), NONE);
    }

    private static void promise22() {
        Cluster x = Probe.led(4, 2);
        P.due("22: session -1", x.sessionOf(-1, 0), NONE);
        P.due("22: session 16", x.sessionOf(16, 0), NONE);
        P.due("22: what -1", x.sessionOf(0, -1), NONE);
        P.due("22: what 6", x.sessionOf(0, 6), NONE);
        x.beginAt(0, 2, false);
        x.readKey(0, 1);
        x.readKey(0, 15);
        x.writeKey(0, 3, 3);
        int[] active = {1, 0, 2, 1, 0x8002, 8};
        int[] waiting = {2, 1, 2, 1, 0x8002, 8};
        int[] over = {3, 1, NONE, 1, 0x8002, 8};
        for (int what = 0; what < 6; what++) {
            P.due("22: of an active one " + what, x.sessionOf(0, what), active[what]);
        }
        x.commitIt(0);
        for (int what = 0; what < 6; what++) {
            P.due("22: of a waiting one " + what, x.sessionOf(0, what), waiting[what]);
        }
        Probe.tick(x, 2, 1);
        Probe.deliver(x);
        Probe.tick(x, 0, 1);
        Probe.deliver(x);
        for (int what = 0; what < 6; what++) {
            P.due("22: of one that is over " + what, x.sessionOf(0, what), over[what]);
        }
        x.beginAt(0, 1, true);
        int[] again = {1, 1, 1, 2, 0, 0};
        for (int what = 0; what < 6; what++) {
            P.due("22: of the next one " + what, x.sessionOf(0, what), again[what]);
        }
    }

    /** What one leader alone accepted gives way to what the next one had decided. */
    private static void staleAcceptedOneIsDropped() {
        Cluster x = new Cluster(3, 4, 4, 2);
        Probe.write(x, 0, 0, 1, 11);
        Probe.tick(x, 0, 2);
        x.deliverAt(0);
        x.deliverAt(1);
        P.due("9: accepted by itself alone", x.replicaOf(0, 5), 3);
        x.turnTo(0, false);
        Probe.lose(x);
        Probe.write(x, 1, 1, 1, 22);
        x.retryAt(0, 1);
        Probe.tick(x, 1, 3);
        Probe.deliver(x);
        P.due("9: both are decided", x.replicaOf(1, 1), 2);
        P.due("9: in this order", x.slotOf(1, 1, 0) * 10 + x.slotOf(1, 2, 0), 10);
        P.due("9: told", x.sessionOf(0, 0), 3);
        x.turnTo(0, true);
        P.due("9: it has accepted it still", x.replicaOf(0, 5) * 10 + x.replicaOf(0, 1), 30);
        Probe.tick(x, 0, 2);
        Probe.deliver(x);
        Probe.tick(x, 0, 2);
        Probe.deliver(x);
        P.due("9: it learns the others", x.replicaOf(0, 1), 2);
        P.due("9: the same values", x.valueAt(0, 1, 2), 11);
        P.due("9: nothing is accepted", x.replicaOf(0, 5), NONE);
    }
}
