/** Edges of promises 1 to 7: a new object, and what sessions do. */
final class SessionEdges {

    private static final int NONE = SnapCluster.NONE;
    private static final int LEAST = Integer.MIN_VALUE;
    private static final int MOST = Integer.MAX_VALUE;
    private static final int[] NO_SESSIONS = {-1, 16, LEAST, MOST};
    private static final int[] NO_KEYS = {-1, 16, LEAST, MOST};

    private SessionEdges() {
    }

    // Promise 1: "replicas N (3 .. 9), versions V (1 .. 16), kept L (1 .. 32), patience T (2 .. 40);
    // others count as the nearest of these."

    static void promise1ReplicasBelowThree(Probe p) {
        for (int replicas : new int[] {2, 0, -1, LEAST}) {
            Cluster x = new Cluster(replicas, 1, 1, 2);
            p.due("N of " + replicas, x.lookAt(0), 3);
            p.due("replica 2", x.replicaOf(2, 0), 1);
            p.due("replica 3", x.replicaOf(3, 0), NONE);
        }
    }

    static void promise1ReplicasAboveNine(Probe p) {
        for (int replicas : new int[] {10, 16, MOST}) {
            Cluster x = new Cluster(replicas, 1, 1, 2);
            p.due("N of " + replicas, x.lookAt(0), 9);
            p.due("replica 8", x.replicaOf(8, 0), 1);
            p.due("replica 9", x.replicaOf(9, 0), NONE);
        }
    }

    static void promise1ReplicasThreeToNine(Probe p) {
        for (int replicas = 3; replicas <= 9; replicas++) {
            Cluster x = new Cluster(replicas, 1, 1, 2);
            p.due("N of " + replicas, x.lookAt(0), replicas);
            p.due("its last replica", x.replicaOf(replicas - 1, 0), 1);
            p.due("the one behind it", x.replicaOf(replicas, 0), NONE);
        }
    }

    static void promise1VersionsBelowOne(Probe p) {
        for (int versions : new int[] {0, -1, LEAST}) {
            Cluster x = Probe.led(versions, 1);
            p.due("V of " + versions, x.lookAt(1), 1);
            Probe.decide(x, 0, 0, 1);
            p.due("horizon", x.replicaOf(0, 2), 1);
        }
    }

    static void promise1VersionsAboveSixteen(Probe p) {
        for (int versions : new int[] {17, MOST}) {
            Cluster x = Probe.led(versions, 1);
            p.due("V of " + versions, x.lookAt(1), 16);
            for (int i = 2; i <= 17; i++) {
                Probe.decide(x, 0, 0, i);
            }
            p.due("index", x.replicaOf(1, 1), 17);
            p.due("horizon", x.replicaOf(1, 2), 1);
        }
    }

    static void promise1VersionsOneAndSixteen(Probe p) {
        for (int versions : new int[] {1, 2, 15, 16}) {
            p.due("V of " + versions, new Cluster(3, versions, 1, 2).lookAt(1), versions);
        }
    }

    static void promise1KeptBelowOne(Probe p) {
        for (int kept : new int[] {0, -1, LEAST}) {
            Cluster x = Probe.led(1, kept);
            p.due("L of " + kept, x.lookAt(2), 1);
            Probe.decide(x, 0, 0, 1);
            p.due("slot 2", x.slotOf(0, 2, 0), 0);
            p.due("slot 1", x.slotOf(0, 1, 0), NONE);
        }
    }

    static void promise1KeptAboveThirtyTwo(Probe p) {
        for (int kept : new int[] {33, MOST}) {
            Cluster x = Probe.led(1, kept);
            p.due("L of " + kept, x.lookAt(2), 32);
            for (int i = 2; i <= 33; i++) {
                Probe.decide(x, 0, 0, i);
            }
            p.due("index", x.replicaOf(0, 1), 33);
            p.due("slot 2", x.slotOf(0, 2, 0), 0);
            p.due("slot 1", x.slotOf(0, 1, 0), NONE);
        }
    }

    static void promise1KeptOneAndThirtyTwo(Probe p) {
        for (int kept : new int[] {1, 2, 31, 32}) {
            p.due("L of " + kept, new Cluster(3, 1, kept, 2).lookAt(2), kept);
        }
    }

    static void promise1PatienceBelowTwo(Probe p) {
        for (int patience : new int[] {1, 0, -1, LEAST}) {
            Cluster x = new Cluster(3, 1, 1, patience);
            p.due("T of " + patience, x.lookAt(8), 2);
            p.due("one tick", x.tickOf(0), 0);
            p.due("two ticks", x.tickOf(0), 1);
        }
    }

    static void promise1PatienceAboveForty(Probe p) {
        for (int patience : new int[] {41, MOST}) {
            Cluster x = new Cluster(3, 1, 1, patience);
            p.due("T of " + patience, x.lookAt(8), 40);
            Probe.tick(x, 0, 38);
            p.due("39 ticks", x.tickOf(0), 0);
            p.due("40 ticks", x.tickOf(0), 1);
        }
    }

    static void promise1PatienceTwoAndForty(Probe p) {
        for (int patience : new int[] {2, 3, 39, 40}) {
            p.due("T of " + patience, new Cluster(3, 1, 1, patience).lookAt(8), patience);
        }
    }

    /** "An object is used for at most 512 calls": the last of them answers as any other. */
    static void promise1LastOfAllCalls(Probe p) {
        Cluster x = new Cluster(9, 16, 32, 40);
        for (int i = 0; i < 511; i++) {
            x.tickOf(i % 9);
        }
        p.due("9 replicas, 57 or 56 ticks each, and each has asked once", x.lookAt(3), 9);
    }

    // Promise 2: "True; false if there is no such SESSION or REPLICA, the REPLICA is DOWN, or the SESSION
    // is ACTIVE or WAITING."

    static void promise2FirstAndLastSession(Probe p) {
        Cluster x = new Cluster(3, 1, 1, 2);
        p.due("session 0", x.beginAt(0, 0, false), true);
        p.due("session 15", x.beginAt(15, 0, false), true);
        p.due("both are active", x.sessionOf(0, 0) * 10 + x.sessionOf(15, 0), 11);
    }

    static void promise2NoSuchSession(Probe p) {
        for (int session : NO_SESSIONS) {
            p.due("session " + session, Probe.led(2, 2).beginAt(session, 0, false), false);
            p.unchanged("session " + session, () -> Probe.led(2, 2), x -> x.beginAt(session, 0, false));
        }
    }

    static void promise2FirstAndLastReplica(Probe p) {
        for (int replicas : new int[] {3, 9}) {
            Cluster x = new Cluster(replicas, 1, 1, 2);
            p.due("replica 0", x.beginAt(0, 0, false), true);
            p.due("the last replica", x.beginAt(1, replicas - 1, false), true);
            p.due("its home", x.sessionOf(1, 2), replicas - 1);
        }
    }

    static void promise2NoSuchReplica(Probe p) {
        for (int replica : new int[] {-1, 3, LEAST, MOST}) {
            p.due("replica " + replica, Probe.led(2, 2).beginAt(0, replica, false), false);
            p.unchanged("replica " + replica, () -> Probe.led(2, 2), x -> x.beginAt(0, replica, false));
        }
        p.due("replica 9 of 9", new Cluster(9, 1, 1, 2).beginAt(0, 9, false), false);
    }

    static void promise2ReplicaIsDown(Probe p) {
        Cluster x = Probe.led(2, 2);
        x.turnTo(1, false);
        p.due("down", x.beginAt(0, 1, false), false);
        p.due("idle", x.sessionOf(0, 0), 0);
        p.due("no home", x.sessionOf(0, 2), NONE);
        p.due("no snapshot", x.sessionOf(0, 3), NONE);
        x.turnTo(1, true);
        p.due("up again", x.beginAt(0, 1, false), true);
    }

    static void promise2SessionIsActive(Probe p) {
        Cluster x = Probe.led(2, 2);
        x.beginAt(0, 0, false);
        x.readKey(0, 1);
        x.writeKey(0, 2, 22);
        Probe.decide(x, 1, 1, 1);
        p.due("active", x.beginAt(0, 1, true), false);
        int[] wanted = {1, 0, 0, 1, 2, 4};
        for (int what = 0; what < 6; what++) {
            p.due("sessionOf " + what, x.sessionOf(0, what), wanted[what]);
        }
        p.due("what it has written", x.readKey(0, 2), 22);
        p.due("it may write", x.writeKey(0, 3, 3), true);
    }

    static void promise2SessionIsWaiting(Probe p) {
        Cluster x = Probe.led(2, 2);
        Probe.write(x, 0, 0, 2, 22);
        p.due("waiting", x.beginAt(0, 1, true), false);
        int[] wanted = {2, 1, 0, 1, 0, 4};
        for (int what = 0; what < 6; what++) {
            p.due("sessionOf " + what, x.sessionOf(0, what), wanted[what]);
        }
    }

    static void promise2SessionIsCommitted(Probe p) {
        Cluster x = Probe.led(2, 2);
        p.due("committed", x.sessionOf(15, 0), 3);
        p.due("begins", x.beginAt(15, 2, false), true);
        int[] wanted = {1, 1, 2, 1, 0, 0};
        for (int what = 0; what < 6; what++) {
            p.due("sessionOf " + what, x.sessionOf(15, what), wanted[what]);
        }
        p.due("what it wrote before is read", x.readKey(15, 15), 1);
        p.due("as any other key", x.sessionOf(15, 4), 1 << 15);
    }

    static void promise2SessionIsAborted(Probe p) {
        Cluster x = Probe.led(2, 2);
        x.beginAt(0, 1, true);
        x.readKey(0, 3);
        x.giveUp(0);
        p.due("aborted", x.sessionOf(0, 0), 4);
        p.due("begins", x.beginAt(0, 2, false), true);
        p.due("its read set", x.sessionOf(0, 4), 0);
        p.due("it does not only read", x.writeKey(0, 3, 3), true);
    }

    static void promise2OnlyReadsBehindOneThatWrote(Probe p) {
        Cluster x = Probe.led(2, 2);
        x.beginAt(15, 0, true);
        p.due("only reads", x.writeKey(15, 1, 1), false);
        p.due("write set", x.sessionOf(15, 5), 0);
    }

    /** "SNAPSHOT the INDEX of that": not of another one that knows more. */
    static void promise2SnapshotOfReplicaBehind(Probe p) {
        Cluster x = Probe.led(2, 2);
        Probe.decideBehind(x);
        x.beginAt(0, 2, false);
        x.beginAt(1, 1, false);
        p.due("snapshots", x.sessionOf(0, 3) * 10 + x.sessionOf(1, 3), 12);
        Cluster y = new Cluster(3, 1, 1, 2);
        y.beginAt(0, 0, false);
        p.due("of a new one", y.sessionOf(0, 3), 0);
    }

    // Promise 3: "IllegalArgumentException if there is no such SESSION or KEY; IllegalStateException if the
    // SESSION is not ACTIVE, or its SNAPSHOT is below HORIZON of its HOME (whatever the KEY): it is ABORTED
    // then." And of all: "Of several exceptions the first one listed is thrown."

    static void promise3FirstAndLastKey(Probe p) {
        Cluster x = Probe.led(2, 2);
        Probe.decide(x, 0, 0, 77);
        x.beginAt(15, 1, false);
        p.due("key 0", x.readKey(15, 0), 77);
        p.due("key 15", x.readKey(15, 15), 1);
        p.due("read set", x.sessionOf(15, 4), 0x8001);
    }

    static void promise3NoSuchSession(Probe p) {
        for (int session : NO_SESSIONS) {
            p.due("session " + session, Probe.readThrows(Probe.led(2, 2), session, 0), 1);
            p.unchanged("session " + session, () -> Probe.led(2, 2), x -> Probe.readThrows(x, session, 0));
        }
    }

    static void promise3NoSuchKey(Probe p) {
        for (int key : NO_KEYS) {
            Cluster x = Probe.led(2, 2);
            x.beginAt(0, 0, false);
            p.due("key " + key, Probe.readThrows(x, 0, key), 1);
            p.due("active still", x.sessionOf(0, 0), 1);
            p.due("read set", x.sessionOf(0, 4), 0);
        }
    }

    static void promise3NoSuchKeyComesFirst(Probe p) {
        Cluster x = Probe.led(1, 2);
        p.due("of an idle one", Probe.readThrows(x, 0, 16), 1);
        x.beginAt(1, 0, false);
        Probe.decide(x, 2, 1, 1);
        Probe.decide(x, 2, 1, 2);
        p.due("below the horizon", Probe.readThrows(x, 1, -1), 1);
        p.due("active still", x.sessionOf(1, 0), 1);
    }

    static void promise3NotActive(Probe p) {
        Cluster x = Probe.led(2, 2);
        Probe.write(x, 1, 1, 1, 1);
        x.beginAt(2, 0, false);
        x.giveUp(2);
        int[] sessions = {0, 1, 15, 2};
        int[] states = {0, 2, 3, 4};
        for (int i = 0; i < 4; i++) {
            p.due("state " + states[i], Probe.readThrows(x, sessions[i], 0), 2);
            p.due("stays so", x.sessionOf(sessions[i], 0), states[i]);
            p.due("read set", x.sessionOf(sessions[i], 4), 0);
        }
    }

    static void promise3SnapshotIsHorizon(Probe p) {
        Cluster x = Probe.led(2, 2);
        x.beginAt(0, 0, false);
        Probe.decide(x, 1, 15, 2);
        Probe.decide(x, 1, 15, 3);
        p.due("horizon", x.replicaOf(0, 2), 1);
        p.due("reads", x.readKey(0, 15), 1);
        p.due("active", x.sessionOf(0, 0), 1);
    }

    private static Cluster belowHorizon(boolean onlyReads) {
        Cluster x = Probe.led(2, 2);
        x.beginAt(0, 0, onlyReads);
        x.readKey(0, 1);
        x.writeKey(0, 2, 22);
        for (int i = 0; i < 3; i++) {
            Probe.decide(x, 1, 15, i);
        }
        return x;
    }

    static void promise3SnapshotBelowHorizon(Probe p) {
        Cluster x = belowHorizon(false);
        p.due("horizon", x.replicaOf(0, 2), 2);
        p.due("active", x.sessionOf(0, 0), 1);
        p.due("throws", Probe.readThrows(x, 0, 5), 2);
        int[] wanted = {4, 0, NONE, 1, 2, 4};
        for (int what = 0; what < 6; what++) {
            p.due("sessionOf " + what, x.sessionOf(0, what), wanted[what]);
        }
        p.due("not active then", Probe.readThrows(x, 0, 5), 2);
    }

    /** "(whatever the KEY)": also one that it has written, or has read. */
    static void promise3SnapshotBelowHorizonOfAnyKey(Probe p) {
        for (int key = 0; key < 16; key++) {
            Cluster x = belowHorizon(false);
            p.due("key " + key, Probe.readThrows(x, 0, key), 2);
            p.due("aborted", x.sessionOf(0, 0), 4);
        }
    }

    static void promise3SnapshotBelowHorizonOfOneThatOnlyReads(Probe p) {
        Cluster x = belowHorizon(true);
        p.due("throws", Probe.readThrows(x, 0, 5), 2);
        p.due("aborted", x.sessionOf(0, 0), 4);
    }

    /** The horizon of its home counts, not that of another replica. */
    static void promise3HorizonOfItsHome(Probe p) {
        Cluster x = Probe.led(1, 1);
        x.beginAt(0, 2, false);
        Probe.decideBehind(x);
        Probe.decideBehind(x);
        p.due("horizon of another", x.replicaOf(0, 2), 2);
        p.due("reads", x.readKey(0, 15), 1);
        Probe.tick(x, 2, 2);
        Probe.deliver(x);
        p.due("a state came", x.replicaOf(2, 2), 3);
        p.due("throws", Probe.readThrows(x, 0, 15), 2);
        p.due("aborted", x.sessionOf(0, 0), 4);
    }

    /** "what it has written, if it has (that does not bring it into the READ SET)" */
    static void promise3ItsOwnWrite(Probe p) {
        Cluster x = Probe.led(2, 2);
        x.beginAt(0, 0, false);
        x.writeKey(0, 15, 0);
        p.due("a 0 that it wrote", x.readKey(0, 15), 0);
        p.due("read set", x.sessionOf(0, 4), 0);
        p.due("another key", x.readKey(0, 14), 0);
        p.due("read set", x.sessionOf(0, 4), 1 << 14);
        x.writeKey(0, 14, 7);
        p.due("one that was read ahead", x.readKey(0, 14), 7);
        p.due("stays in the read set", x.sessionOf(0, 4), 1 << 14);
    }

    // Promise 4: "true; false if there is no such SESSION or KEY, the SESSION is not ACTIVE, or it only
    // reads."

    static void promise4FirstAndLastKey(Probe p) {
        Cluster x = new Cluster(3, 1, 1, 2);
        x.beginAt(15, 0, false);
        p.due("key 0", x.writeKey(15, 0, 1), true);
        p.due("key 15", x.writeKey(15, 15, 2), true);
        p.due("write set", x.sessionOf(15, 5), 0x8001);
    }

    static void promise4AllKeys(Probe p) {
        Cluster x = new Cluster(3, 1, 1, 2);
        x.beginAt(0, 0, false);
        for (int key = 0; key < 16; key++) {
            p.due("key " + key, x.writeKey(0, key, key), true);
        }
        p.due("write set", x.sessionOf(0, 5), 0xFFFF);
    }

    static void promise4LeastAndGreatestValue(Probe p) {
        Cluster x = Probe.led(2, 2);
        x.beginAt(0, 0, false);
        int[] values = {LEAST, MOST, -1, 0};
        for (int key = 0; key < 4; key++) {
            x.writeKey(0, key, 5);
            p.due("value " + values[key], x.writeKey(0, key, values[key]), true);
            p.due("is read", x.readKey(0, key), values[key]);
        }
        x.commitIt(0);
        Probe.tick(x, 0, 1);
        Probe.deliver(x);
        for (int key = 0; key < 4; key++) {
            p.due("is decided", x.valueAt(2, key, 2), values[key]);
        }
    }

    static void promise4NoSuchSession(Probe p) {
        for (int session : NO_SESSIONS) {
            p.due("session " + session, Probe.led(2, 2).writeKey(session, 0, 1), false);
            p.unchanged("session " + session, () -> Probe.led(2, 2), x -> x.writeKey(session, 0, 1));
        }
    }

    static void promise4NoSuchKey(Probe p) {
        for (int key : NO_KEYS) {
            Cluster x = new Cluster(3, 1, 1, 2);
            x.beginAt(0, 0, false);
            p.due("key " + key, x.writeKey(0, key, 1), false);
            p.due("write set", x.sessionOf(0, 5), 0);
            p.due("active", x.sessionOf(0, 0), 1);
        }
    }

    static void promise4NotActive(Probe p) {
        Cluster x = Probe.led(2, 2);
        Probe.write(x, 1, 1, 1, 1);
        x.beginAt(2, 0, false);
        x.giveUp(2);
        int[] sessions = {0, 1, 15, 2};
        int[] states = {0, 2, 3, 4};
        int[] sets = {0, 2, 1 << 15, 0};
        for (int i = 0; i < 4; i++) {
            p.due("state " + states[i], x.writeKey(sessions[i], 3, 3), false);
            p.due("write set", x.sessionOf(sessions[i], 5), sets[i]);
        }
    }

    /** What waits is as it was when it committed. */
    static void promise4WaitingKeepsItsValues(Probe p) {
        Cluster x = Probe.led(2, 2);
        Probe.write(x, 0, 0, 3, 30);
        p.due("waiting", x.writeKey(0, 3, 31), false);
        Probe.tick(x, 0, 1);
        Probe.deliver(x);
        p.due("value", x.valueAt(0, 3, 2), 30);
    }

    /** What it writes in its next transaction is not in the request that is decided already. */
    static void promise4DecidedOneKeepsItsValues(Probe p) {
        Cluster x = Probe.led(2, 2);
        Probe.write(x, 0, 0, 3, 30);
        x.tickOf(0);
        Probe.deliverBut(x, 2);
        x.beginAt(0, 0, false);
        x.writeKey(0, 3, 31);
        Probe.tick(x, 0, 2);
        Probe.deliver(x);
        p.due("learnt later", x.replicaOf(2, 1), 2);
        p.due("value", x.valueAt(2, 3, 2), 30);
    }

    static void promise4OnlyReads(Probe p) {
        Cluster x = new Cluster(3, 1, 1, 2);
        x.beginAt(0, 0, true);
        p.due("writes", x.writeKey(0, 3, 3), false);
        p.due("write set", x.sessionOf(0, 5), 0);
        p.due("reads still", x.readKey(0, 3), 0);
        p.due("active", x.sessionOf(0, 0), 1);
    }

    static void promise4KeyIsWrittenAgain(Probe p) {
        Cluster x = Probe.led(2, 2);
        x.beginAt(0, 0, false);
        x.writeKey(0, 3, 30);
        p.due("again", x.writeKey(0, 3, 31), true);
        p.due("write set", x.sessionOf(0, 5), 8);
        p.due("is read", x.readKey(0, 3), 31);
        x.commitIt(0);
        Probe.tick(x, 0, 1);
        Probe.deliver(x);
        p.due("is decided", x.valueAt(1, 3, 2), 31);
    }

    // Promise 5: "3 if its WRITE SET has none: COMMITTED. Else 2: WAITING; its SEQ is 1 more, and its
    // REQUEST is one of the WAITING ones of its HOME, if it has fewer than 8 (else it is none; retryAt()
    // tries again). NONE if there is no such SESSION, or it is not ACTIVE."

    static void promise5WriteSetHasNone(Probe p) {
        for (int reads = 0; reads < 2; reads++) {
            Cluster x = Probe.led(2, 2);
            x.beginAt(15, 1, reads == 1);
            if (reads == 1) {
                x.readKey(15, 3);
            }
            p.due("commits", x.commitIt(15), 3);
            int[] wanted = {3, 1, NONE, 1, reads * 8, 0};
            for (int what = 0; what < 6; what++) {
                p.due("sessionOf " + what, x.sessionOf(15, what), wanted[what]);
            }
            p.due("nothing waits", x.replicaOf(1, 10), 0);
        }
    }

    static void promise5WriteSetHasOne(Probe p) {
        Cluster x = Probe.led(2, 2);
        x.beginAt(15, 1, false);
        x.writeKey(15, 0, 0);
        p.due("waits", x.commitIt(15), 2);
        int[] wanted = {2, 2, 1, 1, 0, 1};
        for (int what = 0; what < 6; what++) {
            p.due("sessionOf " + what, x.sessionOf(15, what), wanted[what]);
        }
        p.due("one waits at its home", x.replicaOf(1, 10), 1);
        p.due("none elsewhere", x.replicaOf(0, 10) + x.replicaOf(2, 10), 0);
        p.due("nothing is sent", x.lookAt(3), 0);
    }

    private static Cluster withWaiting(int count) {
        Cluster x = new Cluster(3, 1, 1, 2);
        for (int s = 0; s < count; s++) {
            Probe.write(x, s, 0, s, s);
        }
        return x;
    }

    static void promise5HomeHasSeven(Probe p) {
        Cluster x = withWaiting(7);
        x.beginAt(7, 0, false);
        x.writeKey(7, 7, 7);
        p.due("the eighth", x.commitIt(7), 2);
        p.due("waits there", x.replicaOf(0, 10), 8);
    }

    static void promise5HomeHasEight(Probe p) {
        Cluster x = withWaiting(8);
        x.beginAt(8, 0, false);
        x.writeKey(8, 8, 8);
        p.due("the ninth", x.commitIt(8), 2);
        p.due("does not wait there", x.replicaOf(0, 10), 8);
        p.due("waits for all that", x.sessionOf(8, 0), 2);
        p.due("its seq", x.sessionOf(8, 1), 1);
        p.due("its home", x.sessionOf(8, 2), 0);
        p.due("tries again", x.retryAt(8, 1), 2);
        p.due("waits there", x.replicaOf(1, 10), 1);
    }

    static void promise5NoSuchSession(Probe p) {
        for (int session : NO_SESSIONS) {
            p.due("session " + session, Probe.led(2, 2).commitIt(session), NONE);
            p.unchanged("session " + session, () -> Probe.led(2, 2), x -> x.commitIt(session));
        }
    }

    static void promise5NotActive(Probe p) {
        Cluster x = Probe.led(2, 2);
        Probe.write(x, 1, 1, 1, 1);
        x.beginAt(2, 0, false);
        x.writeKey(2, 2, 2);
        x.giveUp(2);
        int[] sessions = {0, 1, 15, 2};
        int[] states = {0, 2, 3, 4};
        int[] seqs = {0, 1, 1, 0};
        for (int i = 0; i < 4; i++) {
            p.due("state " + states[i], x.commitIt(sessions[i]), NONE);
            p.due("stays so", x.sessionOf(sessions[i], 0), states[i]);
            p.due("seq", x.sessionOf(sessions[i], 1), seqs[i]);
        }
        p.due("one waits", x.replicaOf(0, 10) * 10 + x.replicaOf(1, 10), 1);
    }

    // What decides it, to APPLY: "its VERDICT is 2 if its SNAPSHOT is below i - 1 - V, or one of its READ
    // SET is WRITTEN at an INDEX above its SNAPSHOT; else 1".

    /** Session 0 begins at index 1 and writes key 9; so many writes of key 8 come ahead of it. */
    private static Cluster decidedBehind(int versions, int ahead) {
        Cluster x = Probe.led(versions, 1);
        x.beginAt(0, 0, false);
        x.writeKey(0, 9, 90);
        for (int i = 0; i < ahead; i++) {
            Probe.decide(x, 1, 8, i);
        }
        x.commitIt(0);
        Probe.tick(x, 0, 1);
        Probe.deliver(x);
        return x;
    }

    static void promise5SnapshotIsSoFarBehind(Probe p) {
        for (int versions : new int[] {1, 2, 16}) {
            Cluster x = decidedBehind(versions, versions);
            p.due("i", x.replicaOf(0, 1), versions + 2);
            p.due("committed with V " + versions, x.sessionOf(0, 0), 3);
            p.due("verdict", x.knownOf(2, 0, true), 1);
            p.due("value", x.valueAt(2, 9, versions + 2), 90);
        }
    }

    static void promise5SnapshotIsOneMoreBehind(Probe p) {
        for (int versions : new int[] {1, 2, 16}) {
            Cluster x = decidedBehind(versions, versions + 1);
            p.due("i", x.replicaOf(0, 1), versions + 3);
            p.due("aborted with V " + versions, x.sessionOf(0, 0), 4);
            p.due("verdict", x.knownOf(2, 0, true), 2);
            p.due("seq", x.knownOf(2, 0, false), 1);
            p.due("value", x.valueAt(2, 9, versions + 3), 0);
        }
    }

    /** Session 0 begins at index 2 and reads a key; keys 3, 4, 5 are written at 2, 3 and 4, all of them known. */
    private static int verdictOfReader(int key) {
        Cluster x = Probe.led(4, 1);
        Probe.decide(x, 1, 3, 1);
        x.beginAt(0, 0, false);
        x.readKey(0, key);
        x.writeKey(0, 9, 90);
        Probe.decide(x, 1, 4, 1);
        Probe.decide(x, 1, 5, 1);
        x.commitIt(0);
        Probe.tick(x, 0, 1);
        Probe.deliver(x);
        return x.knownOf(2, 0, true);
    }

    static void promise5ReadWhatIsWrittenAtItsSnapshot(Probe p) {
        p.due("verdict", verdictOfReader(3), 1);
    }

    static void promise5ReadWhatIsWrittenRightAboveItsSnapshot(Probe p) {
        p.due("verdict", verdictOfReader(4), 2);
    }

    static void promise5ReadWhatIsWrittenLast(Probe p) {
        p.due("verdict", verdictOfReader(5), 2);
    }

    static void promise5ReadWhatIsNotWritten(Probe p) {
        p.due("verdict", verdictOfReader(6), 1);
    }

    /** The oldest of 16 that are known, and all of them between. */
    static void promise5ReadWhatIsWrittenLongAgo(Probe p) {
        for (int key = 3; key < 5; key++) {
            Cluster x = Probe.led(16, 1);
            x.beginAt(0, 0, false);
            x.readKey(0, key);
            x.writeKey(0, 9, 90);
            for (int i = 0; i < 16; i++) {
                Probe.decide(x, 1, i == 0 ? 3 : 8, i);
            }
            x.commitIt(0);
            Probe.tick(x, 0, 1);
            Probe.deliver(x);
            p.due("verdict", x.knownOf(2, 0, true), key == 3 ? 2 : 1);
        }
    }

    /** One that is aborted has written nothing. */
    static void promise5ReadWhatAnAbortedOneWrote(Probe p) {
        Cluster x = Probe.led(4, 1);
        x.beginAt(0, 0, false);
        x.readKey(0, 3);
        x.writeKey(0, 9, 90);
        x.beginAt(1, 0, false);
        x.readKey(1, 8);
        x.writeKey(1, 3, 30);
        Probe.decide(x, 2, 8, 80);
        x.commitIt(1);
        Probe.tick(x, 0, 1);
        Probe.deliver(x);
        p.due("aborted", x.sessionOf(1, 0), 4);
        x.commitIt(0);
        Probe.tick(x, 0, 1);
        Probe.deliver(x);
        p.due("committed", x.sessionOf(0, 0), 3);
        p.due("value", x.valueAt(0, 3, 4), 0);
    }

    /** The values stay, key 0 too, and nothing is written at its index: a reader of all that commits. */
    static void promise5AbortedOneWritesNothing(Probe p) {
        Cluster x = Probe.led(4, 1);
        Probe.decide(x, 2, 0, 7);
        x.beginAt(1, 0, false);
        x.readKey(1, 8);
        x.writeKey(1, 0, 70);
        x.writeKey(1, 3, 30);
        Probe.decide(x, 2, 8, 80);
        x.beginAt(0, 0, false);
        for (int key = 0; key < 16; key++) {
            x.readKey(0, key);
        }
        x.writeKey(0, 9, 90);
        x.commitIt(1);
        x.commitIt(0);
        x.tickOf(0);
        Probe.deliver(x);
        p.due("aborted", x.sessionOf(1, 0), 4);
        p.due("values", x.valueAt(1, 0, 4) * 100 + x.valueAt(1, 3, 4), 700);
        p.due("committed", x.sessionOf(0, 0), 3);
    }

    /** It is what was read that counts: two that only write the same key both commit. */
    static void promise5WroteWhatIsWritten(Probe p) {
        Cluster x = Probe.led(4, 1);
        x.beginAt(0, 0, false);
        x.writeKey(0, 3, 31);
        x.readKey(0, 3);
        Probe.decide(x, 1, 3, 30);
        x.commitIt(0);
        Probe.tick(x, 0, 1);
        Probe.deliver(x);
        p.due("committed", x.sessionOf(0, 0), 3);
        p.due("value", x.valueAt(2, 3, 3), 31);
    }

    // Promise 6: "ABORTED: true; false if there is no such SESSION, or it is not ACTIVE."

    static void promise6Active(Probe p) {
        Cluster x = Probe.led(2, 2);
        x.beginAt(15, 1, false);
        x.readKey(15, 1);
        x.writeKey(15, 2, 2);
        p.due("given up", x.giveUp(15), true);
        int[] wanted = {4, 1, NONE, 1, 2, 4};
        for (int what = 0; what < 6; what++) {
            p.due("sessionOf " + what, x.sessionOf(15, what), wanted[what]);
        }
        p.due("nothing waits", x.replicaOf(1, 10), 0);
    }

    static void promise6NoSuchSession(Probe p) {
        for (int session : NO_SESSIONS) {
            p.due("session " + session, Probe.led(2, 2).giveUp(session), false);
            p.unchanged("session " + session, () -> Probe.led(2, 2), x -> x.giveUp(session));
        }
    }

    static void promise6NotActive(Probe p) {
        Cluster x = Probe.led(2, 2);
        Probe.write(x, 1, 1, 1, 1);
        x.beginAt(2, 0, false);
        x.giveUp(2);
        int[] sessions = {0, 1, 15, 2};
        int[] states = {0, 2, 3, 4};
        for (int i = 0; i < 4; i++) {
            p.due("state " + states[i], x.giveUp(sessions[i]), false);
            p.due("stays so", x.sessionOf(sessions[i], 0), states[i]);
        }
        p.due("what waits waits on", x.replicaOf(1, 10), 1);
    }

    // Promise 7: "if the STATE of that has its SEQ it has the VERDICT; else its REQUEST is one of the
    // WAITING ones of that, if none like it is, and it has fewer than 8. What it is then, 2, 3 or 4; NONE if
    // there is no such SESSION or REPLICA, the SESSION is not WAITING, or the REPLICA is DOWN."

    private static Cluster oneWaits() {
        Cluster x = Probe.led(2, 2);
        Probe.write(x, 15, 1, 1, 1);
        return x;
    }

    static void promise7NoSuchSession(Probe p) {
        for (int session : NO_SESSIONS) {
            p.due("session " + session, oneWaits().retryAt(session, 0), NONE);
            p.unchanged("session " + session, SessionEdges::oneWaits, x -> x.retryAt(session, 0));
        }
    }

    static void promise7NoSuchReplica(Probe p) {
        for (int replica : new int[] {-1, 3, LEAST, MOST}) {
            p.due("replica " + replica, oneWaits().retryAt(15, replica), NONE);
            p.unchanged("replica " + replica, SessionEdges::oneWaits, x -> x.retryAt(15, replica));
        }
    }

    static void promise7FirstAndLastReplica(Probe p) {
        Cluster x = oneWaits();
        p.due("replica 0", x.retryAt(15, 0), 2);
        p.due("its home", x.sessionOf(15, 2), 0);
        p.due("replica 2", x.retryAt(15, 2), 2);
        p.due("its home", x.sessionOf(15, 2), 2);
        p.due("waits at all", x.replicaOf(0, 10) + x.replicaOf(1, 10) + x.replicaOf(2, 10), 3);
    }

    static void promise7NotWaiting(Probe p) {
        Cluster x = Probe.led(2, 2);
        x.beginAt(1, 1, false);
        x.writeKey(1, 1, 1);
        x.beginAt(2, 0, false);
        x.giveUp(2);
        int[] sessions = {0, 1, 15, 2};
        int[] states = {0, 1, 3, 4};
        int[] homes = {NONE, 1, NONE, NONE};
        for (int i = 0; i < 4; i++) {
            p.due("state " + states[i], x.retryAt(sessions[i], 0), NONE);
            p.due("stays so", x.sessionOf(sessions[i], 0), states[i]);
            p.due("home", x.sessionOf(sessions[i], 2), homes[i]);
        }
        p.due("nothing waits", x.replicaOf(0, 10), 0);
    }

    static void promise7ReplicaIsDown(Probe p) {
        Cluster x = oneWaits();
        x.turnTo(0, false);
        p.due("down", x.retryAt(15, 0), NONE);
        p.due("waits", x.sessionOf(15, 0), 2);
        p.due("home stays", x.sessionOf(15, 2), 1);
        x.turnTo(0, true);
        p.due("nothing waits there", x.replicaOf(0, 10), 0);
        p.due("up", x.retryAt(15, 0), 2);
        p.due("home", x.sessionOf(15, 2), 0);
    }

    static void promise7OneLikeItWaitsThere(Probe p) {
        Cluster x = oneWaits();
        p.due("the same replica", x.retryAt(15, 1), 2);
        p.due("it waits once", x.replicaOf(1, 10), 1);
    }

    static void promise7ReplicaHasSeven(Probe p) {
        Cluster x = withWaiting(7);
        Probe.write(x, 9, 1, 9, 9);
        p.due("retries", x.retryAt(9, 0), 2);
        p.due("the eighth waits there", x.replicaOf(0, 10), 8);
    }

    static void promise7ReplicaHasEight(Probe p) {
        Cluster x = withWaiting(8);
        Probe.write(x, 9, 1, 9, 9);
        p.due("retries", x.retryAt(9, 0), 2);
        p.due("the ninth does not wait there", x.replicaOf(0, 10), 8);
        p.due("that is its home", x.sessionOf(9, 2), 0);
        p.due("it waits where it did", x.replicaOf(1, 10), 1);
    }

    /** Session 15 is decided as its second request; its home, which is replica 2, does not know. */
    private static Cluster decidedElsewhere(boolean aborts) {
        Cluster x = Probe.led(2, 2);
        x.beginAt(15, 0, false);
        x.readKey(15, 3);
        x.writeKey(15, 4, 4);
        if (aborts) {
            Probe.decide(x, 0, 3, 3);
        }
        x.commitIt(15);
        x.retryAt(15, 2);
        Probe.tick(x, 0, 1);
        Probe.deliverBut(x, 2);
        return x;
    }

    static void promise7StateHasItsSeqCommitted(Probe p) {
        Cluster x = decidedElsewhere(false);
        p.due("waits", x.sessionOf(15, 0), 2);
        p.due("committed", x.retryAt(15, 1), 3);
        p.due("is so", x.sessionOf(15, 0), 3);
        p.due("no home", x.sessionOf(15, 2), NONE);
        p.due("nothing waits there", x.replicaOf(1, 10), 0);
    }

    static void promise7StateHasItsSeqAborted(Probe p) {
        Cluster x = decidedElsewhere(true);
        p.due("waits", x.sessionOf(15, 0), 2);
        p.due("aborted", x.retryAt(15, 1), 4);
        p.due("is so", x.sessionOf(15, 0), 4);
        p.due("no home", x.sessionOf(15, 2), NONE);
    }

    /** A state that has the seq ahead of it does not have its seq. */
    static void promise7StateHasAnOlderSeq(Probe p) {
        Cluster x = decidedElsewhere(false);
        p.due("older seq", x.knownOf(2, 15, false), 1);
        p.due("waits", x.retryAt(15, 2), 2);
        p.due("is so", x.sessionOf(15, 0), 2);
        p.due("waits there", x.replicaOf(2, 10), 1);
    }

    /** "which is its HOME then": the one that was its home tells it nothing more. */
    static void promise7HomeThatWas(Probe p) {
        Cluster x = Probe.led(2, 2);
        Probe.write(x, 0, 0, 1, 1);
        x.retryAt(0, 2);
        Probe.tick(x, 0, 1);
        Probe.deliverBut(x, 2);
        p.due("decided at the home that was", x.knownOf(0, 0, true), 1);
        p.due("waits", x.sessionOf(0, 0), 2);
        Probe.tick(x, 0, 2);
        Probe.deliver(x);
        p.due("told by its home", x.sessionOf(0, 0), 3);
    }
}
