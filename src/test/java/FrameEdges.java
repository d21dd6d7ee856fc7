/** Edges of promise 9: a frame comes, and what each kind of frame does, but for the pieces of a state. */
final class FrameEdges {

    private static final int NONE = SnapCluster.NONE;

    private FrameEdges() {
    }

    private static Cluster oneAsks() {
        Cluster x = new Cluster(3, 1, 1, 2);
        Probe.tick(x, 0, 2);
        return x;
    }

    // "its kind as it was sent (also if its receiver is DOWN), or 0 if it is SPOILT; NONE if there is none
    // such."

    static void promise9NoneFlies(Probe p) {
        p.due("frame 0 of none", new Cluster(3, 1, 1, 2).deliverAt(0), NONE);
    }

    static void promise9NoSuchFrame(Probe p) {
        for (int i : new int[] {-1, 1, 200, Integer.MIN_VALUE, Integer.MAX_VALUE}) {
            p.due("frame " + i, oneAsks().deliverAt(i), NONE);
            p.unchanged("frame " + i, FrameEdges::oneAsks, x -> x.deliverAt(i));
        }
    }

    static void promise9FirstAndLastFrame(Probe p) {
        Cluster x = new Cluster(3, 1, 1, 2);
        for (int r = 0; r < 3; r++) {
            Probe.tick(x, r, 2);
        }
        p.due("the last", x.deliverAt(2), 6);
        p.due("the first", x.deliverAt(0), 6);
        p.due("one is left", x.lookAt(3), 1);
        p.message("the one between", x, 0, 6, 1, 2);
    }

    static void promise9ReceiverIsDown(Probe p) {
        Cluster x = Probe.led(2, 2);
        Probe.write(x, 0, 0, 1, 1);
        x.tickOf(0);
        x.turnTo(1, false);
        p.due("its kind", x.deliverAt(0), 3);
        p.due("it is gone", x.lookAt(3), 1);
        p.due("nothing is written", x.journalOf(1, 4), 3);
        x.turnTo(1, true);
        p.due("nothing is accepted", x.replicaOf(1, 5), NONE);
    }

    static void promise9Spoilt(Probe p) {
        Cluster x = Probe.led(2, 2);
        Probe.write(x, 0, 0, 1, 1);
        x.tickOf(0);
        x.tickOf(1);
        x.spoilAt(0, 1, 0);
        p.due("spoilt", x.deliverAt(0), 0);
        p.due("it is gone", x.lookAt(3), 1);
        p.due("nothing is accepted", x.replicaOf(1, 5), NONE);
        p.due("quiet stays", x.replicaOf(1, 12), 1);
        p.due("seen stays", x.replicaOf(1, 9), 3);
    }

    static void promise9SpoiltAndDown(Probe p) {
        Cluster x = oneAsks();
        x.spoilAt(0, 0, 0);
        x.turnTo(1, false);
        p.due("spoilt", x.deliverAt(0), 0);
        p.due("it is gone", x.lookAt(3), 0);
    }

    /** "has no right CHECK, is gone": whichever bit is the other one, those of the check too. */
    static void promise9SpoiltInEveryBit(Probe p) {
        Cluster x = Probe.led(2, 2);
        Probe.decideBehind(x);
        Probe.tick(x, 2, 2);
        p.due("its bytes", x.messageOf(0, 8), 9);
        for (int k = 0; k < 9; k++) {
            for (int bit = 0; bit < 8; bit++) {
                x.doubleAt(0);
                x.spoilAt(1, k, bit);
                p.due("byte " + k + ", bit " + bit, x.deliverAt(1), 0);
            }
        }
        p.due("nothing was helped", x.lookAt(3), 1);
        p.due("the right one", x.deliverAt(0), 6);
        p.due("is helped", x.messageOf(0, 0), 5);
    }

    /** "it is in FLIGHT no more then": of 200 one comes, and one answer fits. */
    static void promise9AnswerToOneOfTwoHundred(Probe p) {
        Cluster x = Probe.led(2, 2);
        Probe.decideBehind(x);
        Probe.tick(x, 2, 2);
        for (int i = 1; i < 200; i++) {
            x.doubleAt(0);
        }
        p.due("frames", x.lookAt(3), 200);
        p.due("comes", x.deliverAt(0), 6);
        p.due("frames", x.lookAt(3), 200);
        p.message("the answer", x, 199, 5, 0, 2, 0, 2);
        p.due("lost", x.lookAt(5), 0);
    }

    /** "SEEN is b, if that is greater." */
    static void promise9SeenIsTheGreatest(Probe p) {
        Cluster x = new Cluster(3, 1, 1, 2);
        Probe.write(x, 0, 1, 1, 1);
        Probe.tick(x, 1, 5);
        p.come(x, 1, 1, 2);
        p.due("the later one came first", x.replicaOf(2, 9), 4);
        p.come(x, 1, 1, 2);
        p.due("seen", x.replicaOf(2, 9), 4);
        Probe.lose(x);
        Probe.tick(x, 0, 2);
        p.come(x, 6, 0, 1);
        p.due("0 is not greater", x.replicaOf(1, 9), 0);
    }

    // "PREPARE: s up to INDEX: HELP q with s. Else if b is not below PROMISED: if it is above, 1 and U of b
    // are NOTED (if it is PROMISED already, nothing is); PROMISED is b, a CANDIDATE or LEADER becomes
    // FOLLOWER; PROMISE (2) with b, s goes to q, with its ACCEPTED one, if s is INDEX + 1 and there is one.
    // Else DENY (7) with PROMISED goes to q."

    /** Replica 2 campaigns for slot 2 with ballot 5, and replicas 0 and 1 have decided that. */
    private static Cluster prepareOfOneBehind() {
        Cluster x = Probe.led(2, 2);
        Probe.decideBehind(x);
        Probe.write(x, 0, 2, 1, 1);
        Probe.tick(x, 2, 4);
        return x;
    }

    static void promise9PrepareSlotIsIndex(Probe p) {
        Cluster x = prepareOfOneBehind();
        int records = x.journalOf(1, 0);
        p.come(x, 1, 2, 1);
        p.message("help", x, Probe.last(x), 5, 1, 2, 0, 2, 7);
        p.due("promised stays", x.replicaOf(1, 4), 3);
        p.due("it is seen", x.replicaOf(1, 9), 5);
        p.due("nothing is noted", x.journalOf(1, 0), records);
    }

    /** A leader that helps leads on. */
    static void promise9PrepareSlotIsIndexOfLeader(Probe p) {
        Cluster x = prepareOfOneBehind();
        p.come(x, 1, 2, 0);
        p.message("help", x, Probe.last(x), 5, 0, 2, 0, 2, 7);
        p.due("leads", x.replicaOf(0, 6) * 10 + x.replicaOf(0, 7), 23);
    }

    /** The slot is looked at ahead of the ballot. */
    static void promise9PrepareSlotIsIndexAndBallotBelow(Probe p) {
        Cluster x = prepareOfOneBehind();
        Probe.write(x, 1, 1, 2, 2);
        Probe.tick(x, 1, 5);
        p.due("promised", x.replicaOf(1, 4), 7);
        p.come(x, 1, 2, 1);
        p.message("help", x, Probe.last(x), 5, 1, 2, 0, 2, 7);
    }

    /** Replica 1 has accepted a request for slot 2 with ballot 3; replica 2 campaigns for that slot. */
    private static Cluster prepareToOneThatAccepted() {
        Cluster x = Probe.led(2, 2);
        Probe.write(x, 4, 0, 1, 1);
        x.tickOf(0);
        x.deliverAt(Probe.find(x, 3, 0, 1));
        Probe.write(x, 5, 2, 1, 1);
        Probe.tick(x, 2, 4);
        return x;
    }

    static void promise9PrepareSlotIsNext(Probe p) {
        Cluster x = prepareToOneThatAccepted();
        p.come(x, 1, 2, 1);
        p.message("promise that tells", x, Probe.last(x), 2, 1, 2, 5, 2, 4, 3);
        p.due("promised", x.replicaOf(1, 4), 5);
        p.due("accepted still, with its ballot", x.replicaOf(1, 5), 3);
    }

    static void promise9PrepareSlotIsNextAndNothingAccepted(Probe p) {
        Cluster x = Probe.led(2, 2);
        Probe.write(x, 5, 2, 1, 1);
        Probe.tick(x, 2, 4);
        p.come(x, 1, 2, 1);
        p.message("promise", x, Probe.last(x), 2, 1, 2, 5, 2, NONE, 0);
    }

    /** Replica 2 has accepted for slot 2 and is asked for slot 3: it promises, but tells nothing. */
    static void promise9PrepareSlotAboveNext(Probe p) {
        Cluster x = Probe.led(2, 2);
        Probe.write(x, 4, 0, 1, 1);
        x.tickOf(0);
        p.come(x, 3, 0, 1);
        p.come(x, 3, 0, 2);
        p.come(x, 4, 1, 0);
        p.come(x, 5, 0, 1);
        Probe.lose(x);
        Probe.write(x, 5, 1, 2, 2);
        Probe.tick(x, 1, 3);
        p.due("accepted", x.replicaOf(2, 5) * 10 + x.replicaOf(2, 1), 31);
        p.come(x, 1, 1, 2);
        p.message("promise", x, Probe.last(x), 2, 2, 1, 4, 3, NONE, 0);
        p.due("promised", x.replicaOf(2, 4), 4);
        p.due("accepted still", x.replicaOf(2, 5), 3);
    }

    static void promise9PrepareBallotAbovePromised(Probe p) {
        Cluster x = Probe.led(2, 2);
        Probe.write(x, 5, 2, 1, 1);
        Probe.tick(x, 2, 4);
        x.tickOf(1);
        int records = x.journalOf(1, 0);
        p.come(x, 1, 2, 1);
        p.due("noted", x.journalOf(1, 0), records + 1);
        p.due("promised", x.replicaOf(1, 4), 5);
        p.due("quiet stays", x.replicaOf(1, 12), 1);
        x.turnTo(1, false);
        x.turnTo(1, true);
        p.due("promised after all", x.replicaOf(1, 4), 5);
    }

    static void promise9PrepareBallotIsPromised(Probe p) {
        Cluster x = Probe.led(2, 2);
        Probe.write(x, 5, 2, 1, 1);
        Probe.tick(x, 2, 4);
        x.doubleAt(Probe.find(x, 1, 2, 1));
        p.come(x, 1, 2, 1);
        int records = x.journalOf(1, 0);
        int blocks = x.journalOf(1, 4);
        p.come(x, 1, 2, 1);
        p.message("promise again", x, Probe.last(x), 2, 1, 2, 5, 2);
        p.due("promised", x.replicaOf(1, 4), 5);
        p.due("nothing is noted", x.journalOf(1, 0), records);
        p.due("nothing is written", x.journalOf(1, 4), blocks);
    }

    /** A crash that is due does not come where nothing is noted. */
    static void promise9PrepareBallotIsPromisedAndCrashIsDue(Probe p) {
        Cluster x = Probe.led(2, 2);
        Probe.write(x, 5, 2, 1, 1);
        Probe.tick(x, 2, 4);
        x.doubleAt(Probe.find(x, 1, 2, 1));
        p.come(x, 1, 2, 1);
        x.crashAfter(1, 0);
        p.come(x, 1, 2, 1);
        p.due("up", x.replicaOf(1, 0), 1);
        p.due("due still", x.journalOf(1, 5), 0);
    }

    static void promise9PrepareBallotBelowPromised(Probe p) {
        Cluster x = Probe.led(2, 2);
        Probe.write(x, 5, 2, 1, 1);
        Probe.tick(x, 2, 4);
        Probe.write(x, 6, 1, 1, 1);
        Probe.tick(x, 1, 3);
        p.come(x, 1, 2, 0);
        int records = x.journalOf(0, 0);
        p.message("prepare of 4", x, Probe.find(x, 1, 1, 0), 1, 1, 0, 4, 2);
        p.come(x, 1, 1, 0);
        p.message("deny", x, Probe.last(x), 7, 0, 1, 5, 0, NONE, 0);
        p.due("promised", x.replicaOf(0, 4), 5);
        p.due("nothing is noted", x.journalOf(0, 0), records);
    }

    static void promise9PrepareToCandidate(Probe p) {
        Cluster x = Probe.led(2, 2);
        Probe.write(x, 5, 2, 1, 1);
        Probe.tick(x, 2, 4);
        Probe.write(x, 6, 1, 1, 1);
        Probe.tick(x, 1, 4);
        p.due("candidate of 4", x.replicaOf(1, 6) * 10 + x.replicaOf(1, 7), 14);
        p.come(x, 1, 2, 1);
        p.due("follows", x.replicaOf(1, 6) * 10 + x.replicaOf(1, 7), 0);
        p.due("no answers", x.replicaOf(1, 8), 0);
        p.due("quiet stays", x.replicaOf(1, 12), 1);
        p.come(x, 1, 1, 2);
        p.due("a greater one stays a candidate", x.replicaOf(2, 6) * 10 + x.replicaOf(2, 7), 15);
        p.message("and denies", x, Probe.last(x), 7, 2, 1, 5, 0);
    }

    static void promise9PrepareToLeader(Probe p) {
        Cluster x = prepareToOneThatAccepted();
        p.due("proposed", x.replicaOf(0, 11), 4);
        p.come(x, 1, 2, 0);
        p.due("follows", x.replicaOf(0, 6) * 10 + x.replicaOf(0, 7), 0);
        p.due("nothing is proposed", x.replicaOf(0, 11), NONE);
        p.due("no answers", x.replicaOf(0, 8), 0);
        p.message("it tells what it accepted itself", x, Probe.last(x), 2, 0, 2, 5, 2, 4, 3);
        p.due("what waits waits on", x.replicaOf(0, 10), 1);
    }

    static void promise9PrepareAndCrash(Probe p) {
        Cluster x = Probe.led(2, 2);
        Probe.write(x, 5, 2, 1, 1);
        Probe.tick(x, 2, 4);
        x.crashAfter(1, 0);
        int flying = x.lookAt(3);
        p.come(x, 1, 2, 1);
        p.due("down", x.replicaOf(1, 0), 0);
        p.due("nothing is sent", x.lookAt(3), flying - 1);
        x.turnTo(1, true);
        p.due("not promised", x.replicaOf(1, 4), 3);
    }

    // "PROMISE: if it is CANDIDATE of b, and s is INDEX + 1, and q has not answered: it has; of all ACCEPTED
    // ones that were told (its own, too) it keeps the one with the greatest BALLOT. When more than half of
    // the REPLICAS have answered it is LEADER of b, QUIET is 0. If one was kept, that is PROPOSED (as above);
    // else it PROPOSES."

    /** Replica 0 campaigns, and so many of the others have promised. */
    private static Cluster promisedBy(int replicas, int others) {
        Cluster x = new Cluster(replicas, 2, 2, 2);
        Probe.write(x, 0, 0, 1, 1);
        Probe.tick(x, 0, 3);
        for (int r = 1; r <= others; r++) {
            x.deliverAt(Probe.find(x, 1, 0, r));
            x.deliverAt(Probe.find(x, 2, r, 0));
        }
        return x;
    }

    static void promise9PromiseOfHalfOrLess(Probe p) {
        for (int n = 3; n <= 9; n++) {
            Cluster x = promisedBy(n, n / 2 - 1);
            p.due("of " + n, x.replicaOf(0, 6), 1);
            p.due("answered", x.replicaOf(0, 8), (1 << n / 2) - 1);
            p.due("quiet", x.replicaOf(0, 12), 1);
        }
    }

    static void promise9PromiseOfMoreThanHalf(Probe p) {
        for (int n = 3; n <= 9; n++) {
            Cluster x = promisedBy(n, n / 2);
            p.due("of " + n, x.replicaOf(0, 6) * 100 + x.replicaOf(0, 7), 200 + n);
            p.due("it proposes and alone has answered", x.replicaOf(0, 11) * 10 + x.replicaOf(0, 8), 1);
            p.due("quiet", x.replicaOf(0, 12), 0);
        }
    }

    static void promise9PromiseTwiceOfOne(Probe p) {
        Cluster x = new Cluster(5, 2, 2, 2);
        Probe.write(x, 0, 0, 1, 1);
        Probe.tick(x, 0, 2);
        p.come(x, 1, 0, 3);
        x.doubleAt(Probe.last(x));
        p.come(x, 2, 3, 0);
        p.due("answered", x.replicaOf(0, 8), 9);
        p.come(x, 2, 3, 0);
        p.due("candidate", x.replicaOf(0, 6), 1);
        p.due("answered", x.replicaOf(0, 8), 9);
    }

    static void promise9PromiseOfAnOlderBallot(Probe p) {
        Cluster x = new Cluster(3, 2, 2, 2);
        Probe.write(x, 0, 0, 1, 1);
        Probe.tick(x, 0, 2);
        p.come(x, 1, 0, 1);
        Probe.tick(x, 0, 2);
        p.due("candidate of 6", x.replicaOf(0, 7), 6);
        p.come(x, 2, 1, 0);
        p.due("candidate", x.replicaOf(0, 6), 1);
        p.due("answered", x.replicaOf(0, 8), 1);
    }

    static void promise9PromiseToFollower(Probe p) {
        Cluster x = new Cluster(3, 2, 2, 2);
        Probe.write(x, 0, 0, 1, 1);
        Probe.tick(x, 0, 2);
        p.come(x, 1, 0, 1);
        x.turnTo(0, false);
        x.turnTo(0, true);
        p.come(x, 2, 1, 0);
        p.due("role", x.replicaOf(0, 6), 0);
        p.due("answered", x.replicaOf(0, 8), 0);
        p.due("nothing is proposed", x.replicaOf(0, 11), NONE);
    }

    /** It leads already and counts who has accepted: a promise is no such answer. */
    static void promise9PromiseToLeader(Probe p) {
        Cluster x = promisedBy(3, 1);
        p.come(x, 1, 0, 2);
        x.tickOf(0);
        int flying = x.lookAt(3);
        p.come(x, 2, 2, 0);
        p.due("leads", x.replicaOf(0, 6), 2);
        p.due("answered", x.replicaOf(0, 8), 1);
        p.due("index", x.replicaOf(0, 1), 0);
        p.due("quiet stays", x.replicaOf(0, 12), 1);
        p.due("nothing is sent", x.lookAt(3), flying - 1);
    }

    static void promise9PromiseNothingTold(Probe p) {
        Cluster x = new Cluster(3, 2, 2, 2);
        Probe.write(x, 6, 0, 1, 1);
        Probe.write(x, 5, 0, 1, 1);
        Probe.tick(x, 0, 2);
        p.come(x, 1, 0, 1);
        p.come(x, 2, 1, 0);
        p.due("the first that waits", x.replicaOf(0, 11), 6);
        p.due("both wait on", x.replicaOf(0, 10), 2);
        p.due("accepted by itself", x.replicaOf(0, 5), 3);
        p.message("accept to 1", x, Probe.last(x) - 1, 3, 0, 1, 3, 1, 6);
        p.message("accept to 2", x, Probe.last(x), 3, 0, 2, 3, 1, 6);
    }

    /** Of five, 1 has accepted that of session 0 with 5, and 2 that of session 2 with 7. */
    private static Cluster twoAccepted() {
        Cluster x = new Cluster(5, 2, 2, 2);
        Probe.write(x, 0, 0, 0, 0);
        Probe.tick(x, 0, 2);
        for (int r = 1; r < 3; r++) {
            x.deliverAt(Probe.find(x, 1, 0, r));
            x.deliverAt(Probe.find(x, 2, r, 0));
        }
        x.deliverAt(Probe.find(x, 3, 0, 1));
        Probe.write(x, 2, 2, 2, 2);
        Probe.tick(x, 2, 4);
        for (int r = 3; r < 5; r++) {
            x.deliverAt(Probe.find(x, 1, 2, r));
            x.deliverAt(Probe.find(x, 2, r, 2));
        }
        Probe.lose(x);
        return x;
    }

    /** Has one campaign with a ballot above all, and two others promise. */
    private static int proposedBy(Probe p, int who, int first, int second) {
        Cluster x = twoAccepted();
        p.due("accepted", x.replicaOf(1, 5) * 10 + x.replicaOf(2, 5), 57);
        x.turnTo(who, false);
        x.turnTo(who, true);
        Probe.write(x, 9, who, 9, 9);
        Probe.tick(x, who, 2 + who);
        Probe.tick(x, who, 2);
        p.come(x, 1, who, first);
        p.come(x, 2, first, who);
        p.come(x, 1, who, second);
        p.come(x, 2, second, who);
        p.due("leads", x.replicaOf(who, 6), 2);
        p.due("its own waits", x.replicaOf(who, 10), 1);
        return x.replicaOf(who, 11);
    }

    static void promise9PromiseTellsTheGreatestLast(Probe p) {
        p.due("proposed", proposedBy(p, 4, 1, 2), 2);
    }

    static void promise9PromiseTellsTheGreatestFirst(Probe p) {
        p.due("proposed", proposedBy(p, 4, 2, 1), 2);
    }

    static void promise9PromiseTellsOneAbove(Probe p) {
        p.due("its own is of 5", proposedBy(p, 1, 2, 4), 2);
    }

    static void promise9PromiseTellsOneBelow(Probe p) {
        p.due("its own is of 7", proposedBy(p, 2, 1, 4), 2);
    }

    static void promise9PromiseTellsItsOwnAlone(Probe p) {
        p.due("its own is of 5", proposedBy(p, 1, 3, 4), 0);
    }

    static void promise9PromiseTellsOneAlone(Probe p) {
        p.due("that of 1", proposedBy(p, 3, 4, 1), 0);
    }

    /** What was told to a campaign that is over does not count in the next one. */
    static void promise9PromiseTellsAnOlderCampaign(Probe p) {
        Cluster x = new Cluster(5, 2, 2, 2);
        Probe.write(x, 0, 0, 0, 0);
        Probe.tick(x, 0, 2);
        for (int r = 1; r < 3; r++) {
            p.come(x, 1, 0, r);
            p.come(x, 2, r, 0);
        }
        p.come(x, 3, 0, 1);
        Probe.lose(x);
        Probe.write(x, 3, 3, 3, 3);
        Probe.tick(x, 3, 7);
        p.come(x, 1, 3, 1);
        p.come(x, 2, 1, 3);
        p.due("two have answered", x.replicaOf(3, 8), 10);
        Probe.lose(x);
        Probe.tick(x, 3, 2);
        for (int r : new int[] {2, 4}) {
            p.come(x, 1, 3, r);
            p.come(x, 2, r, 3);
        }
        p.due("leads", x.replicaOf(3, 6), 2);
        p.due("its own is proposed", x.replicaOf(3, 11), 3);
    }

    /** "of what is PROPOSED": the kept one is proposed with the ballot of the new leader. */
    static void promise9PromiseTellsAndItIsAcceptedAnew(Probe p) {
        Cluster x = prepareToOneThatAccepted();
        p.come(x, 1, 2, 1);
        p.come(x, 2, 1, 2);
        p.due("proposed", x.replicaOf(2, 11), 4);
        p.due("accepted", x.replicaOf(2, 5), 5);
        p.due("quiet", x.replicaOf(2, 12), 0);
        p.message("accept", x, Probe.last(x), 3, 2, 1, 5, 2, 4);
        p.come(x, 3, 2, 1);
        p.come(x, 4, 1, 2);
        p.due("then its own", x.replicaOf(2, 1) * 10 + x.replicaOf(2, 11), 25);
    }

    // "ACCEPT: s up to INDEX: HELP q with s. Else if s is above INDEX + 1: ASK with slot INDEX + 1 goes to q.
    // Else if b is not below PROMISED: its REQUEST is ACCEPTED, with b: NOTED; PROMISED is b, a CANDIDATE, or
    // a LEADER of another BALLOT, becomes FOLLOWER; QUIET is 0; ACCEPTED (4) with b, s goes to q. Else DENY
    // with PROMISED goes to q."

    static void promise9AcceptSlotIsIndex(Probe p) {
        Cluster x = Probe.led(2, 2);
        Probe.write(x, 4, 0, 1, 1);
        x.tickOf(0);
        x.doubleAt(Probe.find(x, 3, 0, 1));
        p.come(x, 3, 0, 1);
        p.come(x, 4, 1, 0);
        p.come(x, 5, 0, 1);
        x.tickOf(1);
        int records = x.journalOf(1, 0);
        p.come(x, 3, 0, 1);
        p.message("help", x, Probe.last(x), 5, 1, 0, 0, 2, 4);
        p.due("nothing is accepted", x.replicaOf(1, 5), NONE);
        p.due("nothing is noted", x.journalOf(1, 0), records);
        p.due("quiet stays", x.replicaOf(1, 12), 1);
    }

    /** An accept for slot 2 comes to one that knows slot 3 and keeps that alone: the whole state goes. */
    static void promise9AcceptSlotBelowWhatIsKept(Probe p) {
        Cluster x = Probe.led(2, 1);
        Probe.write(x, 4, 0, 1, 1);
        x.tickOf(0);
        x.doubleAt(Probe.find(x, 3, 0, 1));
        p.come(x, 3, 0, 1);
        p.come(x, 4, 1, 0);
        p.come(x, 5, 0, 1);
        Probe.decideBehind(x);
        p.due("index", x.replicaOf(1, 1), 3);
        p.come(x, 3, 0, 1);
        p.message("piece 0", x, Probe.last(x) - 1, 8, 1, 0, 0, 3, NONE, 0, 0, 76, 0);
        p.message("piece 1", x, Probe.last(x), 8, 1, 0, 0, 3, NONE, 0, 0, 49, 1);
    }

    static void promise9AcceptSlotAboveNext(Probe p) {
        Cluster x = Probe.led(2, 2);
        Probe.decideBehind(x);
        Probe.write(x, 4, 0, 1, 1);
        x.tickOf(0);
        x.tickOf(2);
        int records = x.journalOf(2, 0);
        p.come(x, 3, 0, 2);
        p.message("ask", x, Probe.last(x), 6, 2, 0, 0, 2);
        p.due("nothing is accepted", x.replicaOf(2, 5), NONE);
        p.due("nothing is noted", x.journalOf(2, 0), records);
        p.due("quiet stays", x.replicaOf(2, 12), 1);
    }

    /** Replica 2 has promised 5 and knows slot 1: it asks all the same. */
    static void promise9AcceptSlotAboveNextAndBallotBelow(Probe p) {
        Cluster x = prepareOfOneBehind();
        p.due("promised", x.replicaOf(2, 4), 5);
        Probe.write(x, 4, 0, 1, 1);
        x.tickOf(0);
        p.message("accept", x, Probe.last(x), 3, 0, 2, 3, 3, 4);
        p.come(x, 3, 0, 2);
        p.message("ask", x, Probe.last(x), 6, 2, 0, 0, 2);
    }

    /** Replica 1 has learnt slot 2 and promised 4: it helps the leader of 3 all the same. */
    static void promise9AcceptSlotIsIndexAndBallotBelow(Probe p) {
        Cluster x = Probe.led(2, 2);
        Probe.write(x, 4, 0, 1, 1);
        x.tickOf(0);
        x.doubleAt(Probe.find(x, 3, 0, 1));
        p.come(x, 3, 0, 1);
        p.come(x, 4, 1, 0);
        p.come(x, 5, 0, 1);
        Probe.write(x, 5, 1, 1, 1);
        Probe.tick(x, 1, 3);
        p.due("promised", x.replicaOf(1, 4), 4);
        p.come(x, 3, 0, 1);
        p.message("help", x, Probe.last(x), 5, 1, 0, 0, 2, 4);
    }

    static void promise9AcceptBallotIsPromised(Probe p) {
        Cluster x = Probe.led(2, 2);
        Probe.write(x, 4, 0, 1, 1);
        x.tickOf(0);
        x.tickOf(1);
        int records = x.journalOf(1, 0);
        p.come(x, 3, 0, 1);
        p.message("accepted", x, Probe.last(x), 4, 1, 0, 3, 2);
        p.due("accepted", x.replicaOf(1, 5), 3);
        p.due("noted", x.journalOf(1, 0), records + 1);
        p.due("quiet", x.replicaOf(1, 12), 0);
        p.due("index stays", x.replicaOf(1, 1), 1);
    }

    static void promise9AcceptBallotAbovePromised(Probe p) {
        Cluster x = promisedBy(3, 1);
        p.due("promised ahead", x.replicaOf(2, 4), 0);
        p.come(x, 3, 0, 2);
        p.message("accepted", x, Probe.last(x), 4, 2, 0, 3, 1);
        p.due("promised", x.replicaOf(2, 4), 3);
        p.due("seen", x.replicaOf(2, 9), 3);
        x.turnTo(2, false);
        x.turnTo(2, true);
        p.due("promised after all", x.replicaOf(2, 4), 3);
        p.due("accepted after all", x.replicaOf(2, 5), 3);
    }

    static void promise9AcceptBallotBelowPromised(Probe p) {
        Cluster x = prepareToOneThatAccepted();
        Probe.tick(x, 0, 2);
        p.come(x, 1, 2, 1);
        int records = x.journalOf(1, 0);
        x.tickOf(1);
        p.come(x, 3, 0, 1);
        p.message("deny", x, Probe.last(x), 7, 1, 0, 5, 0);
        p.due("accepted stays", x.replicaOf(1, 5), 3);
        p.due("promised stays", x.replicaOf(1, 4), 5);
        p.due("nothing is noted", x.journalOf(1, 0), records);
        p.due("quiet stays", x.replicaOf(1, 12), 1);
    }

    /** "its REQUEST is ACCEPTED, with b: NOTED": each time that it comes. */
    static void promise9AcceptComesAgain(Probe p) {
        Cluster x = Probe.led(2, 2);
        Probe.write(x, 4, 0, 1, 1);
        x.tickOf(0);
        x.doubleAt(Probe.find(x, 3, 0, 1));
        p.come(x, 3, 0, 1);
        int records = x.journalOf(1, 0);
        p.come(x, 3, 0, 1);
        p.due("noted", x.journalOf(1, 0), records + 1);
        p.message("accepted", x, Probe.last(x), 4, 1, 0, 3, 2);
    }

    static void promise9AcceptOfAnotherInItsPlace(Probe p) {
        Cluster x = Probe.led(2, 2);
        Probe.write(x, 4, 0, 1, 1);
        x.tickOf(0);
        Probe.write(x, 5, 1, 2, 2);
        Probe.tick(x, 1, 3);
        p.come(x, 1, 1, 2);
        p.come(x, 2, 2, 1);
        p.due("accepted ahead", x.replicaOf(0, 5), 3);
        p.come(x, 3, 1, 0);
        p.due("accepted", x.replicaOf(0, 5), 4);
        p.come(x, 4, 0, 1);
        p.come(x, 5, 1, 0);
        p.due("learnt", x.slotOf(0, 2, 0), 5);
        p.due("values", x.valueAt(0, 1, 2) * 10 + x.valueAt(0, 2, 2), 2);
    }

    static void promise9AcceptToCandidate(Probe p) {
        Cluster x = new Cluster(3, 2, 2, 2);
        Probe.write(x, 2, 2, 2, 2);
        Probe.tick(x, 2, 5);
        Probe.lose(x);
        Probe.write(x, 0, 0, 1, 1);
        Probe.tick(x, 0, 2);
        p.come(x, 1, 0, 1);
        p.come(x, 2, 1, 0);
        p.due("candidate of 2", x.replicaOf(2, 6) * 10 + x.replicaOf(2, 7), 12);
        p.come(x, 3, 0, 2);
        p.due("follows", x.replicaOf(2, 6) * 10 + x.replicaOf(2, 7), 0);
        p.due("no answers", x.replicaOf(2, 8), 0);
        p.due("accepted", x.replicaOf(2, 5), 3);
        p.due("quiet", x.replicaOf(2, 12), 0);
    }

    static void promise9AcceptToLeaderOfAnotherBallot(Probe p) {
        Cluster x = Probe.led(2, 2);
        Probe.write(x, 4, 0, 1, 1);
        x.tickOf(0);
        Probe.write(x, 5, 1, 2, 2);
        Probe.tick(x, 1, 3);
        p.come(x, 1, 1, 2);
        p.come(x, 2, 2, 1);
        p.due("leader of 3", x.replicaOf(0, 6) * 10 + x.replicaOf(0, 7), 23);
        p.come(x, 3, 1, 0);
        p.due("follows", x.replicaOf(0, 6) * 10 + x.replicaOf(0, 7), 0);
        p.due("nothing is proposed", x.replicaOf(0, 11), NONE);
        p.due("promised", x.replicaOf(0, 4), 4);
    }

    static void promise9AcceptAndCrash(Probe p) {
        Cluster x = Probe.led(2, 2);
        Probe.write(x, 4, 0, 1, 1);
        x.tickOf(0);
        x.crashAfter(1, 0);
        p.come(x, 3, 0, 1);
        p.due("down", x.replicaOf(1, 0), 0);
        p.due("nothing is sent", x.lookAt(3), 1);
        x.turnTo(1, true);
        p.due("nothing is accepted", x.replicaOf(1, 5), NONE);
    }

    // "ACCEPTED: if it is LEADER of b with a PROPOSED one, and s is INDEX + 1, and q has not answered for it:
    // it has; when more than half have, CHOSEN (5) with slot s and that goes to ALL, and it LEARNS it, and
    // PROPOSES."

    private static Cluster acceptedBy(int replicas, int others) {
        Cluster x = promisedBy(replicas, replicas / 2);
        for (int r = 1; r <= others; r++) {
            x.deliverAt(Probe.find(x, 3, 0, r));
            x.deliverAt(Probe.find(x, 4, r, 0));
        }
        return x;
    }

    static void promise9AcceptedByHalfOrLess(Probe p) {
        for (int n = 3; n <= 9; n++) {
            Cluster x = acceptedBy(n, n / 2 - 1);
            p.due("of " + n, x.replicaOf(0, 1), 0);
            p.due("answered", x.replicaOf(0, 8), (1 << n / 2) - 1);
            p.due("waits", x.sessionOf(0, 0), 2);
        }
    }

    static void promise9AcceptedByMoreThanHalf(Probe p) {
        for (int n = 3; n <= 9; n++) {
            Cluster x = acceptedBy(n, n / 2);
            p.due("of " + n, x.replicaOf(0, 1), 1);
            p.due("no answers", x.replicaOf(0, 8), 0);
            p.due("nothing is proposed", x.replicaOf(0, 11), NONE);
            p.due("leads", x.replicaOf(0, 6), 2);
            p.due("committed", x.sessionOf(0, 0), 3);
            p.message("chosen to the last", x, Probe.last(x), 5, 0, n - 1, 0, 1, 0);
            p.message("chosen to the first", x, Probe.last(x) - n + 2, 5, 0, 1, 0, 1, 0);
        }
    }

    static void promise9AcceptedTwiceByOne(Probe p) {
        Cluster x = promisedBy(5, 2);
        p.come(x, 3, 0, 4);
        x.doubleAt(Probe.last(x));
        p.come(x, 4, 4, 0);
        p.due("answered", x.replicaOf(0, 8), 17);
        p.come(x, 4, 4, 0);
        p.due("answered", x.replicaOf(0, 8), 17);
        p.due("index", x.replicaOf(0, 1), 0);
    }

    /** Replica 0 leads with 6 now, and an answer to what it proposed with 3 comes. */
    static void promise9AcceptedOfAnOlderBallot(Probe p) {
        Cluster x = promisedBy(3, 1);
        p.come(x, 3, 0, 1);
        x.turnTo(0, false);
        x.turnTo(0, true);
        x.retryAt(0, 0);
        Probe.tick(x, 0, 2);
        p.come(x, 1, 0, 2);
        p.come(x, 2, 2, 0);
        p.due("leads with 6", x.replicaOf(0, 6) * 10 + x.replicaOf(0, 7), 26);
        p.come(x, 4, 1, 0);
        p.due("answered", x.replicaOf(0, 8), 1);
        p.due("index", x.replicaOf(0, 1), 0);
    }

    /** Slot 1 is chosen and slot 2 proposed when the last answer for slot 1 comes. */
    static void promise9AcceptedForAnOlderSlot(Probe p) {
        Cluster x = promisedBy(3, 1);
        Probe.write(x, 1, 0, 2, 2);
        p.come(x, 3, 0, 2);
        p.come(x, 3, 0, 1);
        p.come(x, 4, 1, 0);
        p.due("slot 2 is proposed", x.replicaOf(0, 1) * 10 + x.replicaOf(0, 11), 11);
        p.come(x, 4, 2, 0);
        p.due("answered", x.replicaOf(0, 8), 1);
        p.due("index", x.replicaOf(0, 1), 1);
    }

    static void promise9AcceptedAndNothingProposed(Probe p) {
        Cluster x = promisedBy(3, 1);
        p.come(x, 3, 0, 2);
        p.come(x, 3, 0, 1);
        p.come(x, 4, 1, 0);
        x.tickOf(0);
        int flying = x.lookAt(3);
        p.come(x, 4, 2, 0);
        p.due("answered", x.replicaOf(0, 8), 0);
        p.due("index", x.replicaOf(0, 1), 1);
        p.due("quiet stays", x.replicaOf(0, 12), 1);
        p.due("nothing is sent", x.lookAt(3), flying - 1);
    }

    static void promise9AcceptedToOneThatLeadsNoMore(Probe p) {
        Cluster x = promisedBy(3, 1);
        p.come(x, 3, 0, 1);
        x.turnTo(0, false);
        x.turnTo(0, true);
        p.come(x, 4, 1, 0);
        p.due("index", x.replicaOf(0, 1), 0);
        p.due("answered", x.replicaOf(0, 8), 0);
        p.due("accepted still", x.replicaOf(0, 5), 3);
    }

    /** "what it sent ahead of that stays": chosen goes to all ahead of the note of what is learnt. */
    static void promise9AcceptedAndCrashInLearning(Probe p) {
        Cluster x = promisedBy(3, 1);
        p.come(x, 3, 0, 1);
        x.crashAfter(0, 0);
        p.come(x, 4, 1, 0);
        p.due("down", x.replicaOf(0, 0), 0);
        p.message("chosen to 1", x, Probe.last(x) - 1, 5, 0, 1, 0, 1, 0);
        p.message("chosen to 2", x, Probe.last(x), 5, 0, 2, 0, 1, 0);
        p.due("nobody is told", x.sessionOf(0, 0), 2);
        x.turnTo(0, true);
        p.due("not learnt", x.replicaOf(0, 1), 0);
        p.due("accepted still", x.replicaOf(0, 5), 3);
    }

    static void promise9AcceptedAndCrashInTheNextProposal(Probe p) {
        Cluster x = promisedBy(3, 1);
        Probe.write(x, 1, 0, 2, 2);
        p.come(x, 3, 0, 1);
        x.crashAfter(0, 1);
        p.come(x, 4, 1, 0);
        p.due("down", x.replicaOf(0, 0), 0);
        p.message("chosen is the last that was sent", x, Probe.last(x), 5, 0, 2, 0, 1, 0);
        p.due("told", x.sessionOf(0, 0), 3);
        x.turnTo(0, true);
        p.due("learnt", x.replicaOf(0, 1), 1);
        p.due("nothing is accepted", x.replicaOf(0, 5), NONE);
    }

    // "CHOSEN: if s is INDEX + 1 it LEARNS its REQUEST; if s is above, ASK with slot INDEX + 1 goes to q."

    static void promise9ChosenSlotIsIndex(Probe p) {
        Cluster x = Probe.led(2, 2);
        Probe.write(x, 4, 0, 1, 1);
        x.tickOf(0);
        p.come(x, 3, 0, 1);
        p.come(x, 4, 1, 0);
        x.doubleAt(Probe.find(x, 5, 0, 1));
        p.come(x, 5, 0, 1);
        x.tickOf(1);
        int flying = x.lookAt(3);
        int records = x.journalOf(1, 0);
        p.come(x, 5, 0, 1);
        p.due("index", x.replicaOf(1, 1), 2);
        p.due("nothing is noted", x.journalOf(1, 0), records);
        p.due("quiet stays", x.replicaOf(1, 12), 1);
        p.due("nothing is sent", x.lookAt(3), flying - 1);
    }

    static void promise9ChosenSlotIsNext(Probe p) {
        Cluster x = Probe.led(2, 2);
        Probe.write(x, 4, 0, 1, 1);
        x.tickOf(0);
        p.come(x, 3, 0, 1);
        p.come(x, 4, 1, 0);
        x.tickOf(2);
        int records = x.journalOf(2, 0);
        p.come(x, 5, 0, 2);
        p.due("index", x.replicaOf(2, 1), 2);
        p.due("noted", x.journalOf(2, 0), records + 1);
        p.due("quiet", x.replicaOf(2, 12), 0);
        p.due("kept", x.slotOf(2, 2, 0), 4);
    }

    static void promise9ChosenSlotAboveNext(Probe p) {
        Cluster x = Probe.led(2, 2);
        Probe.decideBehind(x);
        Probe.write(x, 4, 0, 1, 1);
        x.tickOf(0);
        p.come(x, 3, 0, 1);
        p.come(x, 4, 1, 0);
        x.tickOf(2);
        int records = x.journalOf(2, 0);
        p.come(x, 5, 0, 2);
        p.message("ask", x, Probe.last(x), 6, 2, 0, 0, 2);
        p.due("index", x.replicaOf(2, 1), 1);
        p.due("nothing is noted", x.journalOf(2, 0), records);
        p.due("quiet stays", x.replicaOf(2, 12), 1);
    }

    static void promise9ChosenAndCrash(Probe p) {
        Cluster x = Probe.led(2, 2);
        Probe.write(x, 4, 0, 1, 1);
        x.tickOf(0);
        p.come(x, 3, 0, 1);
        p.come(x, 4, 1, 0);
        x.crashAfter(1, 0);
        p.come(x, 5, 0, 1);
        p.due("down", x.replicaOf(1, 0), 0);
        x.turnTo(1, true);
        p.due("index", x.replicaOf(1, 1), 1);
        p.due("accepted still", x.replicaOf(1, 5), 3);
    }

    /** "a CANDIDATE becomes FOLLOWER; a LEADER has no PROPOSED one" */
    static void promise9ChosenToCandidate(Probe p) {
        Cluster x = Probe.led(2, 2);
        Probe.write(x, 4, 0, 1, 1);
        x.tickOf(0);
        p.come(x, 3, 0, 1);
        p.come(x, 4, 1, 0);
        Probe.write(x, 5, 2, 1, 1);
        Probe.tick(x, 2, 5);
        p.due("candidate", x.replicaOf(2, 6) * 10 + x.replicaOf(2, 7), 15);
        p.come(x, 5, 0, 2);
        p.due("follows", x.replicaOf(2, 6) * 10 + x.replicaOf(2, 7), 0);
        p.due("no answers", x.replicaOf(2, 8), 0);
        p.due("promised stays", x.replicaOf(2, 4), 5);
        p.due("quiet", x.replicaOf(2, 12), 0);
    }

    static void promise9ChosenToLeader(Probe p) {
        Cluster x = Probe.led(2, 2);
        Probe.write(x, 4, 0, 1, 1);
        x.tickOf(0);
        Probe.write(x, 5, 1, 2, 2);
        Probe.tick(x, 1, 3);
        p.come(x, 1, 1, 2);
        p.come(x, 2, 2, 1);
        p.come(x, 3, 1, 2);
        p.come(x, 4, 2, 1);
        x.tickOf(0);
        p.due("proposed", x.replicaOf(0, 11), 4);
        p.come(x, 5, 1, 0);
        p.due("leads on", x.replicaOf(0, 6) * 10 + x.replicaOf(0, 7), 23);
        p.due("nothing is proposed", x.replicaOf(0, 11), NONE);
        p.due("no answers", x.replicaOf(0, 8), 0);
        p.due("nothing is accepted", x.replicaOf(0, 5), NONE);
        p.due("quiet", x.replicaOf(0, 12), 0);
        p.due("its own waits on", x.replicaOf(0, 10), 1);
        p.due("learnt", x.slotOf(0, 2, 0), 5);
    }

    // "ASK: if s is not above INDEX it HELPS q with s."

    static void promise9AskSlotIsIndex(Probe p) {
        Cluster x = Probe.led(2, 2);
        Probe.decideBehind(x);
        Probe.tick(x, 2, 2);
        p.message("ask", x, 0, 6, 2, 0, 0, 2);
        p.come(x, 6, 2, 0);
        p.due("one answer", x.lookAt(3), 1);
        p.message("help", x, 0, 5, 0, 2, 0, 2, 7);
    }

    static void promise9AskSlotIsNext(Probe p) {
        Cluster x = Probe.led(2, 2);
        Probe.tick(x, 2, 2);
        p.message("ask", x, 0, 6, 2, 0, 0, 2);
        p.come(x, 6, 2, 0);
        p.due("no answer", x.lookAt(3), 0);
    }

    static void promise9AskSlotAboveNext(Probe p) {
        Cluster x = Probe.led(2, 2);
        Probe.decideBehind(x);
        Probe.decideBehind(x);
        Probe.tick(x, 1, 2);
        p.message("ask", x, 0, 6, 1, 2, 0, 4);
        p.come(x, 6, 1, 2);
        p.due("no answer", x.lookAt(3), 0);
    }

    // "To HELP q with s: if the REQUEST of slot s is kept: CHOSEN with s and that goes to q; else all PIECES
    // of its own STATE go, by their numbers, each as a STATE (8) with slot INDEX."

    private static Cluster askedForSlotTwo(int kept, int index) {
        Cluster x = Probe.led(2, kept);
        for (int i = 1; i < index; i++) {
            Probe.decideBehind(x);
        }
        Probe.tick(x, 2, 2);
        x.deliverAt(Probe.find(x, 6, 2, 0));
        return x;
    }

    static void promise9HelpWithTheFirstThatIsKept(Probe p) {
        for (int kept : new int[] {1, 2, 4}) {
            Cluster x = askedForSlotTwo(kept, kept + 1);
            p.due("the slot ahead of the first", x.replicaOf(0, 3), 1);
            p.due("one frame", x.lookAt(3), 1);
            p.message("chosen with L " + kept, x, 0, 5, 0, 2, 0, 2, 7);
        }
    }

    static void promise9HelpWithOneThatIsKeptNoMore(Probe p) {
        for (int kept : new int[] {1, 2, 4}) {
            Cluster x = askedForSlotTwo(kept, kept + 2);
            p.due("the slot ahead of the first", x.replicaOf(0, 3), 2);
            p.due("two frames", x.lookAt(3), 2);
            p.message("piece 0 with L " + kept, x, 0, 8, 0, 2, 0, kept + 2, NONE, 0, 0, 76, 0);
            p.message("piece 1 with L " + kept, x, 1, 8, 0, 2, 0, kept + 2, NONE, 0, 0, 49, 1);
        }
    }

    // "DENY: a CANDIDATE or LEADER of a BALLOT below b becomes FOLLOWER."

    /** Replica 1 is a candidate of 4, and a deny with 4 is on its way to it. */
    private static Cluster deniedWithFour() {
        Cluster x = new Cluster(3, 2, 2, 2);
        Probe.write(x, 0, 1, 1, 1);
        Probe.tick(x, 1, 3);
        Probe.tick(x, 1, 2);
        x.deliverAt(2);
        x.deliverAt(0);
        return x;
    }

    static void promise9DenyOfItsBallot(Probe p) {
        Cluster x = deniedWithFour();
        p.message("deny", x, Probe.last(x), 7, 0, 1, 4, 0);
        p.come(x, 7, 0, 1);
        p.due("candidate still", x.replicaOf(1, 6) * 10 + x.replicaOf(1, 7), 14);
        p.due("seen", x.replicaOf(1, 9), 4);
        p.come(x, 2, 0, 1);
        p.due("leads", x.replicaOf(1, 6), 2);
    }

    static void promise9DenyOfABallotBelow(Probe p) {
        Cluster x = deniedWithFour();
        Probe.tick(x, 1, 3);
        p.due("candidate of 7", x.replicaOf(1, 6) * 10 + x.replicaOf(1, 7), 17);
        p.come(x, 7, 0, 1);
        p.due("candidate still", x.replicaOf(1, 6) * 10 + x.replicaOf(1, 7), 17);
        p.due("answered", x.replicaOf(1, 8), 2);
        p.due("quiet stays", x.replicaOf(1, 12), 1);
    }

    static void promise9DenyOfABallotAbove(Probe p) {
        Cluster x = Probe.led(2, 2);
        Probe.write(x, 5, 2, 1, 1);
        Probe.tick(x, 2, 4);
        Probe.write(x, 6, 1, 1, 1);
        Probe.tick(x, 1, 4);
        p.come(x, 1, 2, 0);
        p.come(x, 1, 1, 0);
        p.due("candidate of 4", x.replicaOf(1, 6) * 10 + x.replicaOf(1, 7), 14);
        p.come(x, 7, 0, 1);
        p.due("follows", x.replicaOf(1, 6) * 10 + x.replicaOf(1, 7), 0);
        p.due("no answers", x.replicaOf(1, 8), 0);
        p.due("promised stays", x.replicaOf(1, 4), 4);
        p.due("seen", x.replicaOf(1, 9), 5);
        p.due("quiet stays", x.replicaOf(1, 12), 1);
    }

    static void promise9DenyToLeader(Probe p) {
        Cluster x = prepareToOneThatAccepted();
        Probe.tick(x, 0, 2);
        p.come(x, 1, 2, 1);
        p.come(x, 3, 0, 1);
        p.due("leader with a proposed one", x.replicaOf(0, 6) * 10 + x.replicaOf(0, 11), 24);
        p.come(x, 7, 1, 0);
        p.due("follows", x.replicaOf(0, 6) * 10 + x.replicaOf(0, 7), 0);
        p.due("nothing is proposed", x.replicaOf(0, 11), NONE);
        p.due("no answers", x.replicaOf(0, 8), 0);
        p.due("accepted stays", x.replicaOf(0, 5), 3);
        p.due("promised stays", x.replicaOf(0, 4), 3);
    }

    static void promise9DenyToFollower(Probe p) {
        Cluster x = deniedWithFour();
        x.turnTo(1, false);
        x.turnTo(1, true);
        Probe.tick(x, 1, 1);
        p.come(x, 7, 0, 1);
        p.due("follower", x.replicaOf(1, 6), 0);
        p.due("seen", x.replicaOf(1, 9), 4);
        p.due("quiet stays", x.replicaOf(1, 12), 1);
    }

    // "FORWARD: its REQUEST is WAITING, if none like it (SESSION and SEQ) is, its SEQ is above that of its
    // SESSION in the STATE, and there are fewer than 8."

    static void promise9ForwardOfOneLikeIt(Probe p) {
        Cluster x = Probe.led(2, 2);
        Probe.write(x, 4, 1, 1, 1);
        Probe.tick(x, 1, 2);
        p.come(x, 9, 1, 0);
        p.due("waits", x.replicaOf(0, 10), 1);
        p.come(x, 9, 1, 0);
        p.due("waits once", x.replicaOf(0, 10), 1);
    }

    /** Replica 0 does not know that the first request of the session is decided, and gets its second. */
    static void promise9ForwardOfTheSameSession(Probe p) {
        Cluster x = new Cluster(5, 2, 2, 2);
        Probe.write(x, 15, 0, 15, 1);
        Probe.tick(x, 0, 2);
        Probe.deliver(x);
        Probe.write(x, 4, 0, 1, 1);
        x.retryAt(4, 1);
        Probe.tick(x, 1, 3);
        for (int r = 2; r < 4; r++) {
            p.come(x, 1, 1, r);
            p.come(x, 2, r, 1);
        }
        for (int r = 2; r < 4; r++) {
            p.come(x, 3, 1, r);
            p.come(x, 4, r, 1);
        }
        p.due("decided", x.sessionOf(4, 0), 3);
        p.due("the first waits at 0", x.replicaOf(0, 10), 1);
        Probe.write(x, 4, 4, 1, 2);
        x.tickOf(4);
        p.come(x, 9, 4, 0);
        p.due("both wait at 0", x.replicaOf(0, 10), 2);
    }

    static void promise9ForwardOfTheSeqThatIsDecided(Probe p) {
        Cluster x = Probe.led(2, 2);
        Probe.write(x, 4, 1, 1, 1);
        Probe.tick(x, 1, 2);
        p.come(x, 9, 1, 0);
        x.tickOf(0);
        p.come(x, 3, 0, 1);
        p.come(x, 4, 1, 0);
        p.due("decided", x.knownOf(0, 4, false), 1);
        p.come(x, 9, 1, 0);
        p.due("does not wait", x.replicaOf(0, 10), 0);
    }

    static void promise9ForwardOfAnOlderSeq(Probe p) {
        Cluster x = Probe.led(2, 2);
        Probe.write(x, 4, 1, 1, 1);
        Probe.tick(x, 1, 1);
        for (int seq = 1; seq < 3; seq++) {
            x.retryAt(4, 0);
            x.tickOf(0);
            p.come(x, 3, 0, 1);
            p.come(x, 4, 1, 0);
            p.come(x, 5, 0, 1);
            Probe.write(x, 4, 0, 1, 2);
        }
        p.due("decided", x.knownOf(0, 4, false), 2);
        p.due("the third waits", x.replicaOf(0, 10), 1);
        p.come(x, 9, 1, 0);
        p.due("the first does not", x.replicaOf(0, 10), 1);
    }

    private static Cluster forwardedToOneWith(int waiting) {
        Cluster x = Probe.led(2, 2);
        for (int s = 0; s < waiting; s++) {
            Probe.write(x, s, 0, s, s);
        }
        Probe.write(x, 9, 1, 9, 9);
        x.tickOf(1);
        x.deliverAt(Probe.find(x, 9, 1, 0));
        return x;
    }

    static void promise9ForwardToOneWithSeven(Probe p) {
        p.due("waits", forwardedToOneWith(7).replicaOf(0, 10), 8);
    }

    static void promise9ForwardToOneWithEight(Probe p) {
        Cluster x = forwardedToOneWith(8);
        p.due("does not wait", x.replicaOf(0, 10), 8);
        p.due("waits where it did", x.replicaOf(1, 10), 1);
        p.due("the session waits", x.sessionOf(9, 0), 2);
    }

    // "BEAT: if b is below PROMISED, DENY with PROMISED goes to q. Else QUIET is 0, a CANDIDATE or LEADER of
    // a BALLOT below b becomes FOLLOWER; if s is above INDEX, ASK with slot INDEX + 1 goes to q; if it is
    // below, HELP q with s + 1."

    /** Leader 0 has sent a beat with slot 1 to each. */
    private static Cluster beating(int kept) {
        Cluster x = Probe.led(2, kept);
        Probe.tick(x, 0, 2);
        return x;
    }

    static void promise9BeatBallotBelowPromised(Probe p) {
        Cluster x = beating(2);
        Probe.write(x, 5, 1, 1, 1);
        Probe.tick(x, 1, 4);
        p.come(x, 10, 0, 1);
        p.message("deny", x, Probe.last(x), 7, 1, 0, 4, 0);
        p.due("candidate still", x.replicaOf(1, 6) * 10 + x.replicaOf(1, 7), 14);
        p.due("quiet stays", x.replicaOf(1, 12), 1);
    }

    /** A beat of a lesser ballot is denied, whatever its slot. */
    static void promise9BeatBallotBelowPromisedAndSlotBelow(Probe p) {
        Cluster x = beating(2);
        Probe.decideBehind(x);
        Probe.write(x, 5, 1, 1, 1);
        Probe.tick(x, 1, 3);
        p.come(x, 10, 0, 1);
        p.message("deny", x, Probe.last(x), 7, 1, 0, 4, 0);
    }

    static void promise9BeatBallotIsPromised(Probe p) {
        Cluster x = beating(2);
        Probe.tick(x, 1, 1);
        p.come(x, 10, 0, 1);
        p.due("quiet", x.replicaOf(1, 12), 0);
        p.due("promised", x.replicaOf(1, 4), 3);
    }

    /** Of five, replica 4 hears of ballot 5 by a beat first. */
    static void promise9BeatBallotAbovePromised(Probe p) {
        Cluster x = acceptedBy(5, 2);
        Probe.lose(x);
        Probe.tick(x, 0, 2);
        x.tickOf(4);
        p.come(x, 10, 0, 4);
        p.due("quiet", x.replicaOf(4, 12), 0);
        p.due("promised stays", x.replicaOf(4, 4), 0);
        p.due("seen", x.replicaOf(4, 9), 5);
        p.due("nothing is noted", x.journalOf(4, 0), 0);
    }

    static void promise9BeatToCandidate(Probe p) {
        Cluster x = acceptedBy(5, 2);
        Probe.lose(x);
        Probe.tick(x, 0, 2);
        Probe.write(x, 4, 4, 1, 1);
        Probe.tick(x, 4, 7);
        p.due("candidate of 4", x.replicaOf(4, 6) * 10 + x.replicaOf(4, 7), 14);
        p.come(x, 10, 0, 4);
        p.due("follows", x.replicaOf(4, 6) * 10 + x.replicaOf(4, 7), 0);
        p.due("promised stays", x.replicaOf(4, 4), 4);
        p.due("quiet", x.replicaOf(4, 12), 0);
    }

    static void promise9BeatToLeader(Probe p) {
        Cluster x = Probe.led(2, 2);
        Probe.write(x, 5, 1, 2, 2);
        Probe.tick(x, 1, 3);
        p.come(x, 1, 1, 2);
        p.come(x, 2, 2, 1);
        p.come(x, 3, 1, 2);
        p.come(x, 4, 2, 1);
        Probe.lose(x);
        Probe.tick(x, 1, 2);
        x.tickOf(0);
        p.due("leader of 3", x.replicaOf(0, 6) * 10 + x.replicaOf(0, 7), 23);
        p.come(x, 10, 1, 0);
        p.due("follows", x.replicaOf(0, 6) * 10 + x.replicaOf(0, 7), 0);
        p.due("quiet", x.replicaOf(0, 12), 0);
        p.message("ask", x, Probe.last(x), 6, 0, 1, 0, 2);
    }

    static void promise9BeatSlotIsIndex(Probe p) {
        Cluster x = beating(2);
        p.come(x, 10, 0, 1);
        p.due("nothing is sent", x.lookAt(3), 1);
    }

    static void promise9BeatSlotAboveIndex(Probe p) {
        Cluster x = Probe.led(2, 2);
        Probe.decideBehind(x);
        Probe.decideBehind(x);
        Probe.tick(x, 0, 2);
        p.message("beat", x, Probe.find(x, 10, 0, 2), 10, 0, 2, 3, 3);
        p.come(x, 10, 0, 2);
        p.message("ask", x, Probe.last(x), 6, 2, 0, 0, 2);
    }

    static void promise9BeatSlotBelowIndex(Probe p) {
        Cluster x = beating(2);
        Probe.decideBehind(x);
        p.come(x, 10, 0, 1);
        p.message("help with slot 2", x, Probe.last(x), 5, 1, 0, 0, 2, 7);
    }

    /** Slot 2 is the one to help with, and the first that is kept, or kept no more. */
    static void promise9BeatSlotFarBelowIndex(Probe p) {
        for (int kept = 1; kept < 3; kept++) {
            Cluster x = beating(kept);
            Probe.decideBehind(x);
            Probe.decideBehind(x);
            p.come(x, 10, 0, 1);
            p.message("help with slot 2", x, Probe.last(x), kept == 2 ? 5 : 8, 1, 0, 0, kept == 2 ? 2 : 3);
        }
    }
}
