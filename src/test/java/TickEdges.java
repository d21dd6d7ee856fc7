/** Edges of promise 8: a tick, a campaign and what is proposed. */
final class TickEdges {

    private static final int NONE = SnapCluster.NONE;

    private TickEdges() {
    }

    // "NONE if there is no such REPLICA, or it is DOWN."

    static void promise8NoSuchReplica(Probe p) {
        for (int replica : new int[] {-1, 3, Integer.MIN_VALUE, Integer.MAX_VALUE}) {
            p.due("replica " + replica, Probe.led(2, 2).tickOf(replica), NONE);
            p.unchanged("replica " + replica, () -> Probe.led(2, 2), x -> x.tickOf(replica));
        }
        p.due("replica 9 of 9", new Cluster(9, 1, 1, 2).tickOf(9), NONE);
    }

    static void promise8LastReplica(Probe p) {
        Cluster x = new Cluster(9, 1, 1, 2);
        p.due("replica 8 of 9", x.tickOf(8), 0);
        p.due("quiet", x.replicaOf(8, 12), 1);
    }

    static void promise8Down(Probe p) {
        Cluster x = new Cluster(3, 1, 1, 2);
        x.turnTo(1, false);
        for (int i = 0; i < 3; i++) {
            p.due("down", x.tickOf(1), NONE);
        }
        p.due("nothing is sent", x.lookAt(4), 0);
        x.turnTo(1, true);
        p.due("quiet", x.replicaOf(1, 12), 0);
    }

    /** "how many FRAMES are in FLIGHT then (also if the REPLICA went down by it ..)" */
    static void promise8WentDownByIt(Probe p) {
        Cluster x = Probe.led(2, 2);
        Probe.tick(x, 1, 2);
        p.due("one flies", x.lookAt(3), 1);
        Probe.write(x, 0, 0, 1, 1);
        x.crashAfter(0, 0);
        p.due("answers", x.tickOf(0), 1);
        p.due("is down", x.replicaOf(0, 0), 0);
        p.due("then", x.tickOf(0), NONE);
    }

    static void promise8TwoHundredFly(Probe p) {
        Cluster x = new Cluster(3, 1, 1, 2);
        Probe.tick(x, 0, 2);
        for (int i = 1; i < 200; i++) {
            x.doubleAt(0);
        }
        p.due("quiet 1", x.tickOf(1), 200);
        p.due("asks", x.tickOf(1), 200);
        p.due("all that a tick does is done", x.replicaOf(1, 12), 0);
        p.due("sent", x.lookAt(4), 2);
    }

    // "Another FOLLOWER: if QUIET is T or more, it is 0, and ASK (6) with slot INDEX + 1 goes to the next
    // REPLICA (the one behind the last is 0)."

    static void promise8FollowerBelowPatience(Probe p) {
        for (int patience : new int[] {2, 40}) {
            Cluster x = new Cluster(3, 1, 1, patience);
            Probe.tick(x, 1, patience - 1);
            p.due("quiet", x.replicaOf(1, 12), patience - 1);
            p.due("sent", x.lookAt(4), 0);
        }
    }

    static void promise8FollowerAtPatience(Probe p) {
        for (int patience : new int[] {2, 40}) {
            Cluster x = new Cluster(3, 1, 1, patience);
            Probe.tick(x, 1, patience);
            p.due("quiet", x.replicaOf(1, 12), 0);
            p.due("sent", x.lookAt(3), 1);
            p.message("ask", x, 0, 6, 1, 2, 0, 1, NONE, 0);
        }
    }

    static void promise8LastAsksTheFirst(Probe p) {
        for (int replicas : new int[] {3, 4, 9}) {
            Cluster x = new Cluster(replicas, 1, 1, 2);
            Probe.tick(x, replicas - 1, 2);
            p.message("the last", x, 0, 6, replicas - 1, 0, 0, 1);
            Probe.tick(x, replicas - 2, 2);
            p.message("the one ahead of it", x, 1, 6, replicas - 2, replicas - 1, 0, 1);
        }
    }

    static void promise8AsksForTheNextSlot(Probe p) {
        Cluster x = Probe.led(2, 2);
        Probe.tick(x, 1, 2);
        p.message("ask", x, 0, 6, 1, 2, 0, 2);
    }

    // "A FOLLOWER with WAITING REQUESTS: if QUIET is T and its number, or more, it CAMPAIGNS; else, if SEEN
    // is of another REPLICA, FORWARD (9) with its first WAITING REQUEST goes to that."

    static void promise8WaitsBelowPatienceAndNumber(Probe p) {
        for (int number : new int[] {0, 1, 8}) {
            Cluster x = new Cluster(9, 1, 1, 3);
            Probe.write(x, 0, number, 1, 1);
            Probe.tick(x, number, 3 + number - 1);
            p.due("role of " + number, x.replicaOf(number, 6), 0);
            p.due("quiet", x.replicaOf(number, 12), 3 + number - 1);
            p.due("promised", x.replicaOf(number, 4), 0);
            p.due("sent, though quiet is T", x.lookAt(4), 0);
        }
    }

    static void promise8WaitsAtPatienceAndNumber(Probe p) {
        for (int number : new int[] {0, 1, 8}) {
            Cluster x = new Cluster(9, 1, 1, 3);
            Probe.write(x, 0, number, 1, 1);
            Probe.tick(x, number, 3 + number);
            p.due("role of " + number, x.replicaOf(number, 6), 1);
            p.due("quiet", x.replicaOf(number, 12), 0);
            p.due("sent", x.lookAt(4), 8);
        }
    }

    /** It begins to wait when its quiet is near T: that counts on. */
    static void promise8WaitsLate(Probe p) {
        Cluster x = new Cluster(3, 1, 1, 4);
        Probe.tick(x, 1, 3);
        Probe.write(x, 0, 1, 1, 1);
        p.due("quiet 4", x.tickOf(1), 0);
        p.due("quiet 5", x.tickOf(1), 2);
        p.due("candidate", x.replicaOf(1, 6), 1);
    }

    static void promise8WaitsAndNobodyIsSeen(Probe p) {
        Cluster x = new Cluster(3, 1, 1, 2);
        Probe.write(x, 0, 1, 1, 1);
        p.due("seen", x.replicaOf(1, 9), 0);
        p.due("0 is of none", x.tickOf(1), 0);
        p.due("sent", x.lookAt(4), 0);
    }

    static void promise8WaitsAndItselfIsSeen(Probe p) {
        Cluster x = new Cluster(3, 1, 1, 3);
        Probe.write(x, 0, 1, 1, 1);
        Probe.tick(x, 1, 4);
        x.turnTo(1, false);
        x.turnTo(1, true);
        Probe.lose(x);
        x.retryAt(0, 1);
        p.due("seen", x.replicaOf(1, 9), 1);
        p.due("waits", x.replicaOf(1, 10), 1);
        p.due("sends", x.tickOf(1), 0);
    }

    static void promise8WaitsAndAnotherIsSeen(Probe p) {
        Cluster x = Probe.led(2, 2);
        Probe.write(x, 4, 2, 1, 1);
        Probe.write(x, 5, 2, 2, 2);
        p.due("forwards", x.tickOf(2), 1);
        p.message("the first that waits", x, 0, 9, 2, 0, 0, 0, 4);
        p.due("quiet goes on", x.replicaOf(2, 12), 1);
        p.due("both wait on", x.replicaOf(2, 10), 2);
        p.due("each tick", x.tickOf(2), 2);
        p.due("each tick", x.tickOf(2), 3);
        p.due("until it campaigns", x.tickOf(2), 5);
        p.due("candidate", x.replicaOf(2, 6), 1);
    }

    /** With nothing seen above the ballot of replica 0 it is replica 0 that has it. */
    static void promise8ForwardsToTheFirst(Probe p) {
        Cluster x = Probe.led(2, 2);
        Probe.write(x, 4, 1, 1, 1);
        x.tickOf(1);
        p.message("ballot 3 of 3 is of 0", x, 0, 9, 1, 0, 0, 0, 4);
    }

    /** Ballot 1 is the least that is of one: of replica 1. */
    static void promise8ForwardsToOneOfBallotOne(Probe p) {
        Cluster x = new Cluster(3, 1, 1, 2);
        Probe.write(x, 4, 1, 1, 1);
        Probe.tick(x, 1, 3);
        p.come(x, 1, 1, 0);
        Probe.lose(x);
        p.due("seen", x.replicaOf(0, 9), 1);
        Probe.write(x, 5, 0, 1, 1);
        p.due("forwards", x.tickOf(0), 1);
        p.message("to replica 1", x, 0, 9, 0, 1, 0, 0, 5);
    }

    // "A CANDIDATE: if QUIET is T or more, it CAMPAIGNS."

    private static Cluster candidate() {
        Cluster x = new Cluster(3, 1, 1, 3);
        Probe.write(x, 0, 1, 1, 1);
        Probe.tick(x, 1, 4);
        return x;
    }

    static void promise8CandidateBelowPatience(Probe p) {
        Cluster x = candidate();
        Probe.tick(x, 1, 2);
        p.due("ballot", x.replicaOf(1, 7), 1);
        p.due("quiet", x.replicaOf(1, 12), 2);
        p.due("sent", x.lookAt(4), 2);
    }

    /** A candidate forwards nothing, though it has seen the ballot of another one. */
    static void promise8CandidateBelowPatienceHasSeenAnother(Probe p) {
        Cluster x = Probe.led(2, 2);
        Probe.write(x, 4, 1, 1, 1);
        Probe.tick(x, 1, 3);
        Probe.lose(x);
        p.due("seen", x.replicaOf(1, 9), 3);
        p.due("candidate", x.replicaOf(1, 6), 1);
        p.due("sends nothing", x.tickOf(1), 0);
        p.due("quiet", x.replicaOf(1, 12), 1);
    }

    /** It is T then, without its number. */
    static void promise8CandidateAtPatience(Probe p) {
        Cluster x = candidate();
        Probe.tick(x, 1, 3);
        p.due("ballot", x.replicaOf(1, 7), 4);
        p.due("quiet", x.replicaOf(1, 12), 0);
        p.due("sent", x.lookAt(4), 4);
        p.due("it alone", x.replicaOf(1, 8), 2);
    }

    // "b is the least BALLOT of its own above PROMISED and SEEN."; "BALLOT b is of REPLICA b modulo N (0 is
    // of none)."

    static void promise8FirstBallots(Probe p) {
        for (int replicas : new int[] {3, 9}) {
            for (int r : new int[] {0, 1, replicas - 1}) {
                Cluster x = new Cluster(replicas, 1, 1, 2);
                Probe.write(x, 0, r, 1, 1);
                Probe.tick(x, r, 2 + r);
                p.due("ballot of " + r, x.replicaOf(r, 7), r == 0 ? replicas : r);
                p.due("promised", x.replicaOf(r, 4), r == 0 ? replicas : r);
                p.due("seen stays", x.replicaOf(r, 9), 0);
                p.due("it alone", x.replicaOf(r, 8), 1 << r);
            }
        }
    }

    /** The ballot that it has promised is its own one: the next of its own is N more. */
    static void promise8BallotIsAbovePromised(Probe p) {
        Cluster x = candidate();
        p.due("promised", x.replicaOf(1, 4) * 10 + x.replicaOf(1, 9), 10);
        Probe.tick(x, 1, 3);
        p.due("ballot", x.replicaOf(1, 7), 4);
    }

    /** Replica 1 has seen 5, but not promised it: it helped the one that campaigned with that. */
    static void promise8BallotIsAboveSeen(Probe p) {
        Cluster x = Probe.led(2, 2);
        Probe.decideBehind(x);
        Probe.write(x, 0, 2, 1, 1);
        Probe.tick(x, 2, 4);
        p.come(x, 1, 2, 1);
        p.due("promised and seen", x.replicaOf(1, 4) * 10 + x.replicaOf(1, 9), 35);
        Probe.lose(x);
        Probe.write(x, 1, 1, 1, 1);
        Probe.tick(x, 1, 3);
        p.due("the least of 1 above 5", x.replicaOf(1, 7), 7);
        p.due("promised", x.replicaOf(1, 4), 7);
        p.due("seen stays", x.replicaOf(1, 9), 5);
    }

    /** Promised is 3 then: 4 is of replica 1, 5 of replica 2. */
    static void promise8BallotIsTheLeast(Probe p) {
        for (int r = 1; r < 3; r++) {
            Cluster x = Probe.led(2, 2);
            Probe.write(x, 0, r, 1, 1);
            Probe.tick(x, r, 2 + r);
            p.due("ballot of " + r, x.replicaOf(r, 7), 3 + r);
        }
    }

    /** "To ALL is: to each other REPLICA, the one with the least number first." */
    static void promise8ToAll(Probe p) {
        for (int r : new int[] {0, 2, 4}) {
            Cluster x = new Cluster(5, 1, 1, 2);
            Probe.write(x, 0, r, 1, 1);
            x.turnTo(3, false);
            Probe.tick(x, r, 2 + r);
            p.due("sent", x.lookAt(3), 4);
            int i = 0;
            for (int to = 0; to < 5; to++) {
                if (to != r) {
                    p.message("to " + to, x, i, 1, r, to, r == 0 ? 5 : r, 1);
                    i++;
                }
            }
        }
    }

    // "A LEADER with a PROPOSED REQUEST: if QUIET is T or more, it is 0, and ACCEPT (3) with its BALLOT,
    // slot INDEX + 1 and that goes to ALL."

    /** Three replicas with patience 3, of which 0 leads with ballot 3. */
    private static Cluster leader() {
        Cluster x = new Cluster(3, 2, 2, 3);
        Probe.write(x, 15, 0, 15, 1);
        Probe.tick(x, 0, 3);
        Probe.deliver(x);
        return x;
    }

    private static Cluster leaderWithProposed() {
        Cluster x = leader();
        Probe.write(x, 0, 0, 1, 1);
        x.tickOf(0);
        Probe.lose(x);
        return x;
    }

    static void promise8ProposedBelowPatience(Probe p) {
        Cluster x = leaderWithProposed();
        p.due("quiet 1", x.tickOf(0), 0);
        p.due("quiet 2", x.tickOf(0), 0);
        p.due("quiet", x.replicaOf(0, 12), 2);
    }

    static void promise8ProposedAtPatience(Probe p) {
        Cluster x = leaderWithProposed();
        int records = x.journalOf(0, 0);
        Probe.tick(x, 0, 2);
        p.due("quiet 3", x.tickOf(0), 2);
        p.due("quiet", x.replicaOf(0, 12), 0);
        p.message("accept", x, 0, 3, 0, 1, 3, 2, 0);
        p.message("accept", x, 1, 3, 0, 2, 3, 2, 0);
        p.due("it is not noted again", x.journalOf(0, 0), records);
    }

    /** One that is proposed is proposed alone, whatever else waits. */
    static void promise8ProposedAndMoreWait(Probe p) {
        Cluster x = leaderWithProposed();
        Probe.write(x, 1, 0, 2, 2);
        p.due("sends", x.tickOf(0), 0);
        p.due("proposed", x.replicaOf(0, 11), 0);
        p.due("both wait", x.replicaOf(0, 10), 2);
    }

    // "One without: it PROPOSES, if there is something to be PROPOSED; else, if QUIET is T or more, it is 0,
    // and BEAT (10) with its BALLOT and slot INDEX goes to ALL."

    static void promise8NothingProposedBelowPatience(Probe p) {
        Cluster x = leader();
        p.due("quiet 1", x.tickOf(0), 0);
        p.due("quiet 2", x.tickOf(0), 0);
        p.due("quiet", x.replicaOf(0, 12), 2);
        p.due("leads", x.replicaOf(0, 6), 2);
    }

    static void promise8NothingProposedAtPatience(Probe p) {
        Cluster x = leader();
        Probe.tick(x, 0, 2);
        p.due("quiet 3", x.tickOf(0), 2);
        p.due("quiet", x.replicaOf(0, 12), 0);
        p.message("beat", x, 0, 10, 0, 1, 3, 1, NONE);
        p.message("beat", x, 1, 10, 0, 2, 3, 1, NONE);
    }

    static void promise8SomethingToProposeBelowPatience(Probe p) {
        Cluster x = leader();
        Probe.write(x, 4, 0, 1, 1);
        Probe.write(x, 2, 0, 1, 1);
        p.due("quiet 1", x.tickOf(0), 2);
        p.message("accept of the first that waits", x, 0, 3, 0, 1, 3, 2, 4);
        p.due("quiet", x.replicaOf(0, 12), 0);
        p.due("it alone", x.replicaOf(0, 8), 1);
        p.due("it stays among those that wait", x.replicaOf(0, 10), 2);
    }

    static void promise8SomethingToProposeAtPatience(Probe p) {
        Cluster x = leader();
        Probe.tick(x, 0, 2);
        Probe.write(x, 4, 0, 1, 1);
        p.due("quiet 3", x.tickOf(0), 2);
        p.message("accept, no beat", x, 0, 3, 0, 1, 3, 2, 4);
    }

    /** "nothing more of what it does is done": a crash in place of the note of a ballot or a proposal. */
    static void promise8CrashInCampaign(Probe p) {
        Cluster x = new Cluster(3, 1, 1, 2);
        Probe.write(x, 0, 0, 1, 1);
        x.crashAfter(0, 0);
        Probe.tick(x, 0, 2);
        p.due("down", x.replicaOf(0, 0), 0);
        p.due("sent", x.lookAt(4), 0);
        x.turnTo(0, true);
        p.due("promised", x.replicaOf(0, 4), 0);
        p.due("role", x.replicaOf(0, 6), 0);
    }

    static void promise8CrashInProposal(Probe p) {
        Cluster x = leader();
        Probe.write(x, 0, 0, 1, 1);
        int sent = x.lookAt(4);
        x.crashAfter(0, 0);
        p.due("sends", x.tickOf(0), 0);
        p.due("sent", x.lookAt(4), sent);
        p.due("down", x.replicaOf(0, 0), 0);
        x.turnTo(0, true);
        p.due("nothing is accepted", x.replicaOf(0, 5), NONE);
        p.due("promised", x.replicaOf(0, 4), 3);
        p.due("waiting ones", x.replicaOf(0, 10), 0);
    }
}
