/** Edges of promises 15 and 19 to 22: what is told of replicas and sessions. */
final class StateEdges {

    private static final int NONE = SnapCluster.NONE;
    private static final int LEAST = Integer.MIN_VALUE;
    private static final int MOST = Integer.MAX_VALUE;
    private static final int[] NO_REPLICAS = {-1, 3, 9, LEAST, MOST};
    private static final int[] NO_SESSIONS = {-1, 16, LEAST, MOST};

    private StateEdges() {
    }

    private static void replica(Probe p, Cluster x, int replica, int... wanted) {
        for (int what = 0; what < wanted.length; what++) {
            p.due("replicaOf " + what, x.replicaOf(replica, what), wanted[what]);
        }
    }

    private static void session(Probe p, Cluster x, int session, int... wanted) {
        for (int what = 0; what < wanted.length; what++) {
            p.due("sessionOf " + what, x.sessionOf(session, what), wanted[what]);
        }
    }

    // Promise 15: "NONE, but for 0, if it is DOWN. NONE if there is no such REPLICA, or what."

    static void promise15NoSuchReplica(Probe p) {
        Cluster x = Probe.led(2, 2);
        for (int replica : NO_REPLICAS) {
            for (int what = 0; what < 15; what++) {
                p.due("replica " + replica + ", what " + what, x.replicaOf(replica, what), NONE);
            }
        }
    }

    static void promise15NoSuchWhat(Probe p) {
        Cluster x = Probe.led(2, 2);
        for (int what : new int[] {-1, 15, 16, LEAST, MOST}) {
            p.due("what " + what, x.replicaOf(0, what), NONE);
        }
    }

    static void promise15Down(Probe p) {
        Cluster x = Probe.led(2, 2);
        x.turnTo(0, false);
        replica(p, x, 0, 0, NONE, NONE, NONE, NONE, NONE, NONE, NONE, NONE, NONE, NONE, NONE, NONE, NONE, NONE, NONE);
        p.due("what -1", x.replicaOf(0, -1), NONE);
    }

    static void promise15AtFirst(Probe p) {
        for (int r = 0; r < 9; r++) {
            replica(p, new Cluster(9, 16, 32, 40), r, 1, 0, 0, 0, 0, NONE, 0, 0, 0, 0, 0, NONE, 0, NONE, 0);
        }
    }

    /** "HORIZON is never below INDEX - V": it is 0 up to index V. */
    static void promise15HorizonUpToV(Probe p) {
        for (int versions : new int[] {1, 2, 5}) {
            Cluster x = Probe.led(versions, 1);
            for (int i = 1; i < versions; i++) {
                Probe.decide(x, 4, 4, i);
            }
            p.due("index", x.replicaOf(1, 1), versions);
            p.due("horizon", x.replicaOf(1, 2), 0);
        }
    }

    static void promise15HorizonAboveV(Probe p) {
        for (int versions : new int[] {1, 2, 5}) {
            Cluster x = Probe.led(versions, 1);
            for (int i = 1; i < versions + 1; i++) {
                Probe.decide(x, 4, 4, i);
            }
            p.due("index", x.replicaOf(1, 1), versions + 1);
            p.due("horizon", x.replicaOf(1, 2), 1);
        }
    }

    /** "3: BASE, or, if it keeps REQUESTS, the slot ahead of the first of these": it keeps all up to L. */
    static void promise15BaseUpToL(Probe p) {
        for (int kept : new int[] {1, 2, 4}) {
            Cluster x = Probe.led(1, kept);
            p.due("one is kept", x.replicaOf(1, 3), 0);
            for (int i = 1; i < kept; i++) {
                Probe.decide(x, 4, 4, i);
                p.due("more are kept", x.replicaOf(1, 3), 0);
            }
            Probe.decide(x, 4, 4, 9);
            p.due("one more", x.replicaOf(1, 3), 1);
        }
    }

    /** It keeps none behind a state: the index of that is its base. */
    static void promise15BaseWithoutRequests(Probe p) {
        Cluster x = Probe.led(2, 1);
        Probe.decideBehind(x);
        Probe.decideBehind(x);
        Probe.tick(x, 2, 2);
        Probe.deliver(x);
        p.due("base", x.replicaOf(2, 3), 3);
        Probe.decide(x, 4, 4, 4);
        p.due("the slot ahead of slot 4", x.replicaOf(2, 3), 3);
        Probe.decide(x, 4, 4, 5);
        p.due("the slot ahead of slot 5", x.replicaOf(2, 3), 4);
    }

    /** "5: the BALLOT of what it has ACCEPTED (NONE without one)" */
    static void promise15NothingAccepted(Probe p) {
        Cluster x = Probe.led(2, 2);
        p.due("nothing", x.replicaOf(1, 5), NONE);
        Probe.write(x, 4, 0, 1, 1);
        x.tickOf(0);
        p.come(x, 3, 0, 1);
        p.due("accepted", x.replicaOf(1, 5), 3);
    }

    /** "8: who has answered (bit r for REPLICA r; 0 for a FOLLOWER, or a LEADER without a PROPOSED one)" */
    static void promise15NobodyHasAnswered(Probe p) {
        Cluster x = Probe.led(2, 2);
        p.due("a follower", x.replicaOf(1, 8), 0);
        p.due("a leader without a proposed one", x.replicaOf(0, 8), 0);
        Probe.write(x, 4, 0, 1, 1);
        x.tickOf(0);
        p.due("a leader with one", x.replicaOf(0, 8), 1);
    }

    /** The last replica of nine has bit 8. */
    static void promise15LastReplicaHasAnswered(Probe p) {
        Cluster x = new Cluster(9, 1, 1, 2);
        Probe.write(x, 0, 8, 1, 1);
        Probe.tick(x, 8, 10);
        p.due("itself", x.replicaOf(8, 8), 256);
        p.come(x, 1, 8, 0);
        p.come(x, 2, 0, 8);
        p.due("and the first", x.replicaOf(8, 8), 257);
    }

    /** "7: its BALLOT (0 for a FOLLOWER)" */
    static void promise15BallotOfFollower(Probe p) {
        Cluster x = Probe.led(2, 2);
        p.due("a follower has promised", x.replicaOf(1, 4), 3);
        p.due("but has no ballot", x.replicaOf(1, 7), 0);
        p.due("a leader has", x.replicaOf(0, 7), 3);
    }

    /** "11: the SESSION of the PROPOSED one (NONE without one)", and session 0 is one. */
    static void promise15ProposedOfSessionZero(Probe p) {
        Cluster x = Probe.led(2, 2);
        p.due("none", x.replicaOf(0, 11), NONE);
        Probe.write(x, 0, 0, 1, 1);
        p.due("it waits alone", x.replicaOf(0, 11), NONE);
        x.tickOf(0);
        p.due("proposed", x.replicaOf(0, 11), 0);
        p.due("not by a follower", x.replicaOf(1, 11), NONE);
    }

    /** "10: WAITING REQUESTS", "up to 8" */
    static void promise15WaitingUpToEight(Probe p) {
        Cluster x = new Cluster(3, 1, 1, 2);
        for (int s = 0; s < 10; s++) {
            p.due("waiting", x.replicaOf(0, 10), Math.min(s, 8));
            Probe.write(x, s, 0, s, s);
        }
        p.due("waiting", x.replicaOf(0, 10), 8);
    }

    // Promise 19: "IndexOutOfBoundsException if there is no such REPLICA or KEY, it is DOWN, or the INDEX is
    // below HORIZON or above its own."

    /** Three replicas of index 4 and horizon 2, where key 0 is written at 2, 3 and 4. */
    private static Cluster versions() {
        Cluster x = Probe.led(2, 2);
        for (int i = 2; i < 5; i++) {
            Probe.decide(x, 4, 0, 10 * i);
        }
        return x;
    }

    static void promise19NoSuchReplica(Probe p) {
        Cluster x = versions();
        for (int replica : NO_REPLICAS) {
            p.due("replica " + replica, Probe.valueThrows(x, replica, 0, 4), true);
        }
    }

    static void promise19NoSuchKey(Probe p) {
        Cluster x = versions();
        for (int key : new int[] {-1, 16, 17, LEAST, MOST}) {
            p.due("key " + key, Probe.valueThrows(x, 1, key, 4), true);
        }
    }

    static void promise19FirstAndLastKey(Probe p) {
        Cluster x = versions();
        p.due("key 0", x.valueAt(1, 0, 4), 40);
        p.due("key 15", x.valueAt(1, 15, 4), 1);
    }

    static void promise19Down(Probe p) {
        Cluster x = versions();
        x.turnTo(1, false);
        p.due("down", Probe.valueThrows(x, 1, 0, 4), true);
        p.due("another", x.valueAt(2, 0, 4), 40);
        x.turnTo(1, true);
        p.due("up", x.valueAt(1, 0, 4), 40);
    }

    static void promise19AtHorizon(Probe p) {
        Cluster x = versions();
        p.due("horizon", x.replicaOf(1, 2), 2);
        p.due("value", x.valueAt(1, 0, 2), 20);
        p.due("behind it", x.valueAt(1, 0, 3), 30);
    }

    static void promise19BelowHorizon(Probe p) {
        Cluster x = versions();
        for (int index : new int[] {1, 0, -1, LEAST}) {
            p.due("index " + index, Probe.valueThrows(x, 1, 0, index), true);
        }
    }

    static void promise19AboveIndex(Probe p) {
        Cluster x = versions();
        for (int index : new int[] {5, 6, 19, MOST}) {
            p.due("index " + index, Probe.valueThrows(x, 1, 0, index), true);
        }
    }

    /** Its own index counts, not that of one that knows more. */
    static void promise19AboveIndexOfOneBehind(Probe p) {
        Cluster x = Probe.led(2, 2);
        Probe.decideBehind(x);
        p.due("one that knows", Probe.valueThrows(x, 0, 7, 2), false);
        p.due("one that does not", Probe.valueThrows(x, 2, 7, 2), true);
        p.due("what it knows", x.valueAt(2, 15, 1), 1);
    }

    static void promise19OfANewOne(Probe p) {
        Cluster x = new Cluster(3, 1, 1, 2);
        p.due("index 0", x.valueAt(2, 15, 0), 0);
        p.due("index 1", Probe.valueThrows(x, 2, 15, 1), true);
        p.due("index -1", Probe.valueThrows(x, 2, 15, -1), true);
    }

    /** All 17 indices from the horizon on, with V 16. */
    static void promise19SeventeenIndices(Probe p) {
        Cluster x = Probe.led(16, 1);
        for (int i = 2; i < 19; i++) {
            Probe.decide(x, 4, 0, i);
        }
        p.due("index and horizon", x.replicaOf(1, 1) * 10 + x.replicaOf(1, 2), 182);
        for (int i = 2; i < 19; i++) {
            p.due("index " + i, x.valueAt(1, 0, i), i);
        }
        p.due("index 1", Probe.valueThrows(x, 1, 0, 1), true);
    }

    // Promise 20: "NONE if it keeps none such, is DOWN, or there is no such what."

    /** Three replicas that keep slots 3 and 4, of session 4. */
    static void promise20KeptOnes(Probe p) {
        Cluster x = versions();
        int[] wanted = {4, 2, 2, 0, 1};
        for (int what = 0; what < 5; what++) {
            p.due("the first, what " + what, x.slotOf(1, 3, what), wanted[what]);
        }
        wanted = new int[] {4, 3, 3, 0, 1};
        for (int what = 0; what < 5; what++) {
            p.due("the last, what " + what, x.slotOf(1, 4, what), wanted[what]);
        }
    }

    static void promise20AheadOfTheFirst(Probe p) {
        Cluster x = versions();
        for (int slot : new int[] {2, 1, 0, -1, LEAST}) {
            p.due("slot " + slot, x.slotOf(1, slot, 0), NONE);
        }
    }

    static void promise20BehindTheLast(Probe p) {
        Cluster x = versions();
        for (int slot : new int[] {5, 6, 35, 36, MOST}) {
            p.due("slot " + slot, x.slotOf(1, slot, 0), NONE);
        }
    }

    static void promise20OfANewOne(Probe p) {
        Cluster x = new Cluster(3, 1, 32, 2);
        for (int slot : new int[] {-1, 0, 1, 32}) {
            p.due("slot " + slot, x.slotOf(0, slot, 0), NONE);
        }
    }

    static void promise20AllThirtyTwo(Probe p) {
        Cluster x = Probe.led(1, 32);
        for (int i = 2; i < 34; i++) {
            Probe.decide(x, i % 15, 0, i);
        }
        for (int slot = 2; slot < 34; slot++) {
            p.due("slot " + slot, x.slotOf(1, slot, 0), slot % 15);
        }
        p.due("slot 1", x.slotOf(1, 1, 0), NONE);
        p.due("slot 34", x.slotOf(1, 34, 0), NONE);
    }

    static void promise20NoSuchReplica(Probe p) {
        Cluster x = versions();
        for (int replica : NO_REPLICAS) {
            p.due("replica " + replica, x.slotOf(replica, 4, 0), NONE);
        }
    }

    static void promise20Down(Probe p) {
        Cluster x = versions();
        x.turnTo(1, false);
        for (int what = 0; what < 5; what++) {
            p.due("what " + what, x.slotOf(1, 4, what), NONE);
        }
    }

    static void promise20NoSuchWhat(Probe p) {
        Cluster x = versions();
        for (int what : new int[] {-1, 5, 6, LEAST, MOST}) {
            p.due("what " + what, x.slotOf(1, 4, what), NONE);
        }
    }

    /** What is accepted, and not yet learnt, is no slot that it keeps. */
    static void promise20AcceptedAlone(Probe p) {
        Cluster x = versions();
        Probe.write(x, 5, 0, 1, 1);
        x.tickOf(0);
        p.come(x, 3, 0, 1);
        p.due("slot 5", x.slotOf(1, 5, 0), NONE);
        p.due("nor with the leader", x.slotOf(0, 5, 0), NONE);
    }

    /** Bits 0 and 15 of both sets. */
    static void promise20FirstAndLastKey(Probe p) {
        Cluster x = Probe.led(2, 2);
        x.beginAt(0, 0, false);
        x.readKey(0, 0);
        x.readKey(0, 15);
        x.writeKey(0, 15, 1);
        x.writeKey(0, 0, 1);
        x.commitIt(0);
        x.tickOf(0);
        Probe.deliver(x);
        p.due("read set", x.slotOf(2, 2, 3), 0x8001);
        p.due("write set", x.slotOf(2, 2, 4), 0x8001);
    }

    // Promise 21: "NONE if there is no such REPLICA or SESSION, or it is DOWN."

    static void promise21NoSuchReplica(Probe p) {
        Cluster x = Probe.led(2, 2);
        for (int replica : NO_REPLICAS) {
            p.due("seq, replica " + replica, x.knownOf(replica, 15, false), NONE);
            p.due("verdict, replica " + replica, x.knownOf(replica, 15, true), NONE);
        }
    }

    static void promise21NoSuchSession(Probe p) {
        Cluster x = Probe.led(2, 2);
        for (int session : NO_SESSIONS) {
            p.due("seq, session " + session, x.knownOf(0, session, false), NONE);
            p.due("verdict, session " + session, x.knownOf(0, session, true), NONE);
        }
    }

    static void promise21Down(Probe p) {
        Cluster x = Probe.led(2, 2);
        x.turnTo(1, false);
        p.due("seq", x.knownOf(1, 15, false), NONE);
        p.due("verdict", x.knownOf(1, 15, true), NONE);
        x.turnTo(1, true);
        p.due("seq", x.knownOf(1, 15, false), 1);
        p.due("verdict", x.knownOf(1, 15, true), 1);
    }

    /** "no SEQ (0), VERDICTS 0" at first. */
    static void promise21NothingIsDecided(Probe p) {
        Cluster x = new Cluster(3, 1, 1, 2);
        Probe.write(x, 0, 0, 1, 1);
        for (int s : new int[] {0, 15}) {
            p.due("seq of " + s, x.knownOf(0, s, false), 0);
            p.due("verdict of " + s, x.knownOf(0, s, true), 0);
        }
    }

    static void promise21FirstAndLastSession(Probe p) {
        Cluster x = Probe.led(2, 2);
        Probe.decide(x, 0, 0, 1);
        Probe.decide(x, 0, 0, 2);
        p.due("seqs", x.knownOf(1, 0, false) * 10 + x.knownOf(1, 15, false), 21);
        p.due("verdicts", x.knownOf(1, 0, true) * 10 + x.knownOf(1, 15, true), 11);
    }

    // Promise 22: "NONE if there is no such SESSION, or what."

    static void promise22NoSuchSession(Probe p) {
        Cluster x = Probe.led(2, 2);
        for (int session : NO_SESSIONS) {
            for (int what = 0; what < 6; what++) {
                p.due("session " + session + ", what " + what, x.sessionOf(session, what), NONE);
            }
        }
    }

    static void promise22NoSuchWhat(Probe p) {
        Cluster x = Probe.led(2, 2);
        for (int what : new int[] {-1, 6, 7, LEAST, MOST}) {
            p.due("what " + what, x.sessionOf(15, what), NONE);
        }
    }

    /** "(NONE if it is neither ACTIVE nor WAITING) .. (NONE without one) .. (0 without one)" */
    static void promise22Idle(Probe p) {
        Cluster x = new Cluster(3, 1, 1, 2);
        for (int s = 0; s < 16; s++) {
            session(p, x, s, 0, 0, NONE, NONE, 0, 0);
        }
    }

    static void promise22Active(Probe p) {
        Cluster x = new Cluster(3, 1, 1, 2);
        x.beginAt(0, 0, false);
        session(p, x, 0, 1, 0, 0, 0, 0, 0);
        x.readKey(0, 0);
        x.readKey(0, 15);
        x.writeKey(0, 15, 1);
        session(p, x, 0, 1, 0, 0, 0, 0x8001, 0x8000);
    }

    static void promise22Waiting(Probe p) {
        Cluster x = new Cluster(3, 1, 1, 2);
        Probe.write(x, 0, 2, 0, 1);
        session(p, x, 0, 2, 1, 2, 0, 0, 1);
        x.turnTo(2, false);
        session(p, x, 0, 2, 1, 2, 0, 0, 1);
    }

    static void promise22Committed(Probe p) {
        Cluster x = Probe.led(2, 2);
        session(p, x, 15, 3, 1, NONE, 0, 0, 0x8000);
    }

    static void promise22Aborted(Probe p) {
        Cluster x = Probe.led(2, 2);
        x.beginAt(4, 0, false);
        x.readKey(4, 3);
        x.writeKey(4, 4, 4);
        Probe.decide(x, 5, 3, 3);
        x.commitIt(4);
        x.tickOf(0);
        Probe.deliver(x);
        session(p, x, 4, 4, 1, NONE, 1, 8, 16);
    }

    /** "of its latest TRANSACTION": the next one has its own. */
    static void promise22NextTransaction(Probe p) {
        Cluster x = Probe.led(2, 2);
        x.beginAt(15, 1, false);
        session(p, x, 15, 1, 1, 1, 1, 0, 0);
    }

    /** Looking changes nothing, whatever is asked. */
    static void promise22LookingChangesNothing(Probe p) {
        p.unchanged("looking", StateEdges::versions, x -> {
            for (int i = -1; i < 17; i++) {
                x.replicaOf(1, i);
                x.journalOf(1, i);
                x.blockOf(1, i, i);
                x.frameOf(0, i);
                x.slotOf(1, i, 0);
                x.knownOf(1, i, true);
                x.sessionOf(i, 0);
                x.messageOf(0, i);
                x.lookAt(i);
            }
        });
    }
}
