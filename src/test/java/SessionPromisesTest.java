/** Promises 1 to 7: a new object, and what sessions do. */
public final class SessionPromisesTest {

    private static final Probe P = new Probe();
    private static final int NONE = SnapCluster.NONE;

    public static void main(String[] args) {
        promise1Limits();
        promise1AtFirst();
        promise2();
        promise3Reads();
        promise3Horizon();
        promise4();
        promise5();
        promise5Verdicts();
        promise6();
        promise7();
        P.end("SessionPromisesTest");
    }

    private static void promise1Limits() {
        int[][] wanted = {{3, 1, 1, 2, 3, 1, 1, 2}, {9, 16, 32, 40, 9, 16, 32, 40}, {2, 0, 0, 1, 3, 1, 1, 2},
            {10, 17, 33, 41, 9, 16, 32, 40}, {5, 4, 7, 11, 5, 4, 7, 11},
            {Integer.MIN_VALUE, Integer.MAX_VALUE, Integer.MIN_VALUE, Integer.MAX_VALUE, 3, 16, 1, 40}};
        for (int[] row : wanted) {
            Cluster x = new Cluster(row[0], row[1], row[2], row[3]);
            P.due("1: replicas " + row[0], x.lookAt(0), row[4]);
            P.due("1: versions " + row[1], x.lookAt(1), row[5]);
            P.due("1: kept " + row[2], x.lookAt(2), row[6]);
            P.due("1: patience " + row[3], x.lookAt(8), row[7]);
        }
        P.due("NONE", NONE, -1);
    }

    private static void promise1AtFirst() {
        Cluster x = new Cluster(4, 2, 2, 3);
        int[] first = {1, 0, 0, 0, 0, NONE, 0, 0, 0, 0, 0, NONE, 0, NONE, 0};
        int[] journal = {0, 0, 1, 0, 0, NONE};
        int[] session = {0, 0, NONE, NONE, 0, 0};
        for (int what = 0; what < first.length; what++) {
            P.due("1: replicaOf " + what, x.replicaOf(3, what), first[what]);
        }
        for (int what = 0; what < journal.length; what++) {
            P.due("1: journalOf " + what, x.journalOf(3, what), journal[what]);
        }
        for (int what = 0; what < session.length; what++) {
            P.due("1: sessionOf " + what, x.sessionOf(15, what), session[what]);
        }
        P.due("1: the first head", Probe.disk(x, 3, 1, 0, 512), Probe.join(Probe.head(1, 0), new byte[500]));
        P.due("1: block 0", Probe.disk(x, 3, 0, 0, 512), new byte[512]);
        P.due("1: block 2", Probe.disk(x, 3, 2, 0, 512), new byte[512]);
        P.due("1: value", x.valueAt(3, 15, 0), 0);
    }

    private static void promise2() {
        Cluster x = Probe.led(4, 4);
        P.due("2: session -1", x.beginAt(-1, 0, false), false);
        P.due("2: session 16", x.beginAt(16, 0, false), false);
        P.due("2: replica -1", x.beginAt(0, -1, false), false);
        P.due("2: replica 3", x.beginAt(0, 3, false), false);
        P.due("2: it is idle still", x.sessionOf(0, 0), 0);
        P.due("2: begins", x.beginAt(0, 1, false), true);
        P.due("2: active", x.sessionOf(0, 0), 1);
        P.due("2: home", x.sessionOf(0, 2), 1);
        P.due("2: snapshot", x.sessionOf(0, 3), 1);
        P.due("2: begin when active", x.beginAt(0, 0, false), false);
        x.readKey(0, 3);
        x.writeKey(0, 4, 1);
        x.commitIt(0);
        P.due("2: begin when waiting", x.beginAt(0, 0, false), false);
        P.due("2: home of a waiting one", x.sessionOf(0, 2), 1);
        x.turnTo(2, false);
        P.due("2: at one that is down", x.beginAt(1, 2, false), false);
        P.due("2: behind committed", x.beginAt(15, 0, false), true);
        P.due("2: seq stays", x.sessionOf(15, 1), 1);
        P.due("2: read set is new", x.sessionOf(15, 4), 0);
        P.due("2: write set is new", x.sessionOf(15, 5), 0);
        x.giveUp(15);
        P.due("2: behind aborted", x.beginAt(15, 1, true), true);
        Cluster old = Probe.led(4, 4);
        Probe.write(old, 0, 0, 1, 5);
        Probe.tick(old, 0, 1);
        Probe.deliverBut(old, 2);
        old.beginAt(1, 2, false);
        old.beginAt(2, 0, false);
        P.due("2: snapshot of one that is behind", old.sessionOf(1, 3), 1);
        P.due("2: snapshot of one that is not", old.sessionOf(2, 3), 2);
    }

    private static void promise3Reads() {
        Cluster x = Probe.led(4, 4);
        x.beginAt(0, 1, false);
        P.due("3: session -1", Probe.readThrows(x, -1, 0), 1);
        P.due("3: session 16", Probe.readThrows(x, 16, 0), 1);
        P.due("3: key -1", Probe.readThrows(x, 0, -1), 1);
        P.due("3: key 16", Probe.readThrows(x, 0, 16), 1);
        P.due("3: key 16 of an idle one", Probe.readThrows(x, 1, 16), 1);
        P.due("3: idle", Probe.readThrows(x, 1, 0), 2);
        P.due("3: idle stays so", x.sessionOf(1, 0), 0);
        P.due("3: reads", x.readKey(0, 15), 1);
        P.due("3: read set", x.sessionOf(0, 4), 1 << 15);
        x.writeKey(0, 2, -7);
        P.due("3: reads its own", x.readKey(0, 2), -7);
        P.due("3: that is not in the read set", x.sessionOf(0, 4), 1 << 15);
        Probe.decide(x, 1, 15, 99);
        P.due("3: home has it", x.valueAt(1, 15, 2), 99);
        P.due("3: its snapshot has not", x.readKey(0, 15), 1);
        x.commitIt(0);
        P.due("3: waiting", Probe.readThrows(x, 0, 15), 2);
        P.due("3: waiting stays so", x.sessionOf(0, 0), 2);
    }

    private static void promise3Horizon() {
        Cluster x = Probe.led(1, 4);
        x.beginAt(0, 0, false);
        x.writeKey(0, 3, 4);
        Probe.decide(x, 1, 15, 2);
        P.due("3: horizon", x.replicaOf(0, 2), 1);
        P.due("3: at the horizon", x.readKey(0, 15), 1);
        Probe.decide(x, 1, 15, 3);
        P.due("3: below the horizon", x.replicaOf(0, 2), 2);
        P.due("3: even its own key", Probe.readThrows(x, 0, 3), 2);
        P.due("3: it is aborted then", x.sessionOf(0, 0), 4);
        P.due("3: without a home", x.sessionOf(0, 2), NONE);
        P.due("3: its snapshot is told still", x.sessionOf(0, 3), 1);
        P.due("3: its read set too", x.sessionOf(0, 4), 1 << 15);
        P.due("3: its write set too", x.sessionOf(0, 5), 1 << 3);
    }

    private static void promise4() {
        Cluster x = new Cluster(3, 1, 1, 2);
        P.due("4: idle", x.writeKey(0, 0, 1), false);
        x.beginAt(0, 0, false);
        P.due("4: session -1", x.writeKey(-1, 0, 1), false);
        P.due("4: session 16", x.writeKey(16, 0, 1), false);
        P.due("4: key -1", x.writeKey(0, -1, 1), false);
        P.due("4: key 16", x.writeKey(0, 16, 1), false);
        P.due("4: write set is empty", x.sessionOf(0, 5), 0);
        P.due("4: writes", x.writeKey(0, 15, Integer.MIN_VALUE), true);
        P.due("4: writes again", x.writeKey(0, 15, 5), true);
        P.due("4: writes another", x.writeKey(0, 0, 0), true);
        P.due("4: write set", x.sessionOf(0, 5), 0x8001);
        P.due("4: the latest counts", x.readKey(0, 15), 5);
        x.beginAt(1, 0, true);
        P.due("4: only reads", x.writeKey(1, 0, 1), false);
        P.due("4: only reads has none", x.sessionOf(1, 5), 0);
        x.commitIt(0);
        P.due("4: waiting", x.writeKey(0, 1, 1), false);
    }

    private static void promise5() {
        Cluster x = new Cluster(3, 1, 1, 2);
        P.due("5: idle", x.commitIt(0), NONE);
        P.due("5: session -1", x.commitIt(-1), NONE);
        P.due("5: session 16", x.commitIt(16), NONE);
        x.beginAt(0, 1, false);
        x.readKey(0, 4);
        P.due("5: wrote nothing", x.commitIt(0), 3);
        P.due("5: seq stays", x.sessionOf(0, 1), 0);
        P.due("5: over", x.commitIt(0), NONE);
        P.due("5: no home", x.sessionOf(0, 2), NONE);
        for (int s = 0; s < 9; s++) {
            x.beginAt(s, 1, false);
            x.writeKey(s, s, s);
            P.due("5: session " + s, x.commitIt(s), 2);
            P.due("5: seq of session " + s, x.sessionOf(s, 1), 1);
            P.due("5: waiting ones", x.replicaOf(1, 10), Math.min(8, s + 1));
        }
        P.due("5: sends nothing", x.lookAt(4), 0);
        P.due("5: sessions that wait", x.lookAt(7), 9);
        P.due("5: waiting", x.commitIt(8), NONE);
    }

    /** A reader of what was written since its snapshot aborts, a blind writer does not. */
    private static void promise5Verdicts() {
        Cluster x = Probe.led(2, 4);
        x.beginAt(0, 0, false);
        x.readKey(0, 3);
        x.writeKey(0, 4, 40);
        x.beginAt(1, 0, false);
        x.readKey(1, 5);
        x.writeKey(1, 3, 30);
        x.beginAt(2, 0, false);
        x.writeKey(2, 3, 33);
        x.commitIt(1);
        x.commitIt(0);
        x.commitIt(2);
        Probe.tick(x, 0, 1);
        Probe.deliver(x);
        P.due("5: all are decided", x.replicaOf(2, 1), 4);
        P.due("5: the first commits", x.sessionOf(1, 0), 3);
        P.due("5: the reader aborts", x.sessionOf(0, 0), 4);
        P.due("5: the blind writer commits", x.sessionOf(2, 0), 3);
        P.due("5: value of the aborted", x.valueAt(2, 4, 4), 0);
        P.due("5: value ahead", x.valueAt(2, 3, 3), 30);
        P.due("5: value", x.valueAt(2, 3, 4), 33);
        P.due("5: verdict 2", x.knownOf(2, 0, true), 2);
        P.due("5: verdict 1", x.knownOf(2, 2, true), 1);
        x.beginAt(3, 0, false);
        x.writeKey(3, 9, 1);
        x.beginAt(4, 0, false);
        x.writeKey(4, 9, 2);
        Probe.decide(x, 5, 8, 1);
        Probe.decide(x, 5, 8, 2);
        x.commitIt(3);
        Probe.tick(x, 0, 1);
        Probe.deliver(x);
        P.due("5: a snapshot that is V behind", x.sessionOf(3, 0), 3);
        x.commitIt(4);
        Probe.tick(x, 0, 1);
        Probe.deliver(x);
        P.due("5: a snapshot that is more behind", x.sessionOf(4, 0), 4);
    }

    private static void promise6() {
        Cluster x = new Cluster(3, 1, 1, 2);
        P.due("6: idle", x.giveUp(0), false);
        P.due("6: session -1", x.giveUp(-1), false);
        P.due("6: session 16", x.giveUp(16), false);
        x.beginAt(0, 2, false);
        x.readKey(0, 1);
        x.writeKey(0, 2, 3);
        P.due("6: active", x.giveUp(0), true);
        P.due("6: aborted", x.sessionOf(0, 0), 4);
        P.due("6: no home", x.sessionOf(0, 2), NONE);
        P.due("6: its sets are told still", x.sessionOf(0, 4) * 16 + x.sessionOf(0, 5), 36);
        P.due("6: over", x.giveUp(0), false);
        x.beginAt(0, 2, false);
        x.writeKey(0, 2, 3);
        x.commitIt(0);
        P.due("6: waiting", x.giveUp(0), false);
    }

    private static void promise7() {
        Cluster x = Probe.led(4, 4);
        P.due("7: not waiting", x.retryAt(0, 0), NONE);
        Probe.write(x, 0, 1, 2, 3);
        P.due("7: session -1", x.retryAt(-1, 0), NONE);
        P.due("7: session 16", x.retryAt(16, 0), NONE);
        P.due("7: replica -1", x.retryAt(0, -1), NONE);
        P.due("7: replica 3", x.retryAt(0, 3), NONE);
        P.due("7: at the same", x.retryAt(0, 1), 2);
        P.due("7: one like it is there", x.replicaOf(1, 10), 1);
        P.due("7: at another", x.retryAt(0, 2), 2);
        P.due("7: home", x.sessionOf(0, 2), 2);
        P.due("7: waiting there", x.replicaOf(2, 10), 1);
        P.due("7: and here", x.replicaOf(1, 10), 1);
        x.turnTo(2, false);
        P.due("7: one that is down", x.retryAt(0, 2), NONE);
        P.due("7: it waits", x.sessionOf(0, 0), 2);
        P.due("7: home stays", x.sessionOf(0, 2), 2);
        P.due("7: at the leader", x.retryAt(0, 0), 2);
        x.retryAt(0, 1);
        Probe.tick(x, 0, 1);
        P.due("7: not decided", x.retryAt(0, 1), 2);
        Probe.deliver(x);
        P.due("7: told by its home", x.sessionOf(0, 0), 3);
        promise7Verdicts();
        promise7Full();
    }

    private static void promise7Verdicts() {
        Cluster x = Probe.led(4, 4);
        x.beginAt(1, 1, false);
        x.readKey(1, 2);
        x.writeKey(1, 2, 4);
        Probe.write(x, 0, 1, 2, 3);
        x.retryAt(0, 0);
        x.commitIt(1);
        x.retryAt(1, 0);
        x.retryAt(0, 2);
        x.retryAt(1, 2);
        x.turnTo(2, false);
        Probe.tick(x, 0, 1);
        Probe.deliver(x);
        P.due("7: its home is down", x.sessionOf(0, 0), 2);
        P.due("7: committed", x.retryAt(0, 0), 3);
        P.due("7: no home then", x.sessionOf(0, 2), NONE);
        P.due("7: aborted", x.retryAt(1, 1), 4);
        P.due("7: over", x.retryAt(1, 1), NONE);
    }

    private static void promise7Full() {
        Cluster x = new Cluster(3, 1, 1, 2);
        for (int s = 0; s < 9; s++) {
            Probe.write(x, s, 1, s, s);
        }
        P.due("7: full", x.retryAt(8, 1), 2);
        P.due("7: still full", x.replicaOf(1, 10), 8);
        P.due("7: there is room", x.retryAt(8, 0), 2);
        P.due("7: it waits there", x.replicaOf(0, 10), 1);
    }
}
