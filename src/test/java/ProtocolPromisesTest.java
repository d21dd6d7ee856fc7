/** Promises 8 and 9: what a tick does, and what a frame does when it comes. */
public final class ProtocolPromisesTest {

    private static final Probe P = new Probe();
    private static final int NONE = SnapCluster.NONE;

    public static void main(String[] args) {
        tickOfWrongOnes();
        tickOfFollower();
        tickOfFollowerWhoWaits();
        tickOfCandidate();
        tickOfLeader();
        tickThatCrashes();
        deliverOfWrongOnes();
        prepare();
        promise();
        promiseThatTells();
        promiseToAnOlderCampaign();
        for (int order = 0; order < 4; order++) {
            greatestBallotIsKept(order);
        }
        accept();
        accepted();
        acceptedOfOlderBallot();
        chosenAndAsk();
        deny();
        forward();
        beat();
        pieces();
        piecesOfLesserIndex();
        piecesTellWhatWasWritten();
        P.end("ProtocolPromisesTest");
    }

    private static void tickOfWrongOnes() {
        Cluster x = new Cluster(3, 1, 1, 2);
        P.due("8: replica -1", x.tickOf(-1), NONE);
        P.due("8: replica 3", x.tickOf(3), NONE);
        x.turnTo(1, false);
        P.due("8: one that is down", x.tickOf(1), NONE);
    }

    private static void tickOfFollower() {
        Cluster x = new Cluster(3, 1, 1, 3);
        P.due("8: quiet 1", x.tickOf(2), 0);
        P.due("8: quiet 2", x.tickOf(2), 0);
        P.due("8: quiet is told", x.replicaOf(2, 12), 2);
        P.due("8: asks", x.tickOf(2), 1);
        P.due("8: quiet is 0", x.replicaOf(2, 12), 0);
        P.message("8: the last asks the first", x, 0, 6, 2, 0, 0, 1);
        Probe.tick(x, 0, 3);
        P.message("8: the first asks the next", x, 1, 6, 0, 1, 0, 1);
    }

    private static void tickOfFollowerWhoWaits() {
        Cluster x = new Cluster(4, 1, 1, 2);
        Probe.write(x, 0, 2, 1, 1);
        P.due("8: nobody is seen", x.tickOf(2), 0);
        Probe.tick(x, 2, 2);
        P.due("8: patience and number", x.replicaOf(2, 6), 0);
        P.due("8: campaigns", x.tickOf(2), 3);
        P.due("8: candidate", x.replicaOf(2, 6), 1);
        P.due("8: ballot of its own", x.replicaOf(2, 7), 2);
        P.due("8: promised", x.replicaOf(2, 4), 2);
        P.due("8: seen stays", x.replicaOf(2, 9), 0);
        P.due("8: it alone", x.replicaOf(2, 8), 4);
        P.due("8: quiet is 0", x.replicaOf(2, 12), 0);
        P.message("8: prepare to 0", x, 0, 1, 2, 0, 2, 1);
        P.message("8: prepare to 1", x, 1, 1, 2, 1, 2, 1);
        P.message("8: prepare to 3", x, 2, 1, 2, 3, 2, 1);
        Probe.write(x, 1, 1, 1, 1);
        x.deliverAt(1);
        Probe.lose(x);
        P.due("8: forwards at once", x.tickOf(1), 1);
        P.message("8: forward", x, 0, 9, 1, 2, 0, 0, 1);
        P.due("8: quiet goes on", x.replicaOf(1, 12), 1);
        P.due("8: and again", x.tickOf(1), 2);
        P.due("8: then it campaigns", x.tickOf(1), 5);
        P.due("8: the least of its own above", x.replicaOf(1, 4), 5);
        x.deliverAt(2);
        Probe.lose(x);
        x.turnTo(1, false);
        x.turnTo(1, true);
        P.due("8: seen is its own", x.replicaOf(1, 9), 5);
        x.retryAt(1, 1);
        P.due("8: it does not forward to itself", x.tickOf(1), 0);
    }

    private static void tickOfCandidate() {
        Cluster x = new Cluster(3, 1, 1, 2);
        Probe.write(x, 0, 0, 1, 1);
        Probe.tick(x, 0, 2);
        P.due("8: candidate waits", x.tickOf(0), 2);
        P.due("8: candidate again", x.tickOf(0), 4);
        P.due("8: the next ballot", x.replicaOf(0, 7), 6);
        P.message("8: prepare again", x, 3, 1, 0, 2, 6, 1);
    }

    private static void tickOfLeader() {
        Cluster x = Probe.led(2, 2);
        P.due("8: leads", x.replicaOf(0, 6), 2);
        P.due("8: quiet leader", x.tickOf(0), 0);
        P.due("8: beats", x.tickOf(0), 2);
        P.message("8: beat", x, 0, 10, 0, 1, 3, 1);
        P.message("8: beat to all", x, 1, 10, 0, 2, 3, 1);
        P.due("8: quiet is 0", x.replicaOf(0, 12), 0);
        Probe.lose(x);
        Probe.tick(x, 0, 1);
        Probe.write(x, 0, 0, 4, 4);
        Probe.write(x, 1, 0, 5, 5);
        P.due("8: proposes", x.tickOf(0), 2);
        P.message("8: accept", x, 0, 3, 0, 1, 3, 2, 0);
        P.due("8: proposed", x.replicaOf(0, 11), 0);
        P.due("8: it stays waiting", x.replicaOf(0, 10), 2);
        P.due("8: it alone", x.replicaOf(0, 8), 1);
        P.due("8: accepted by itself", x.replicaOf(0, 5), 3);
        P.due("8: quiet is 0", x.replicaOf(0, 12), 0);
        P.due("8: not yet", x.tickOf(0), 2);
        P.due("8: accept again", x.tickOf(0), 4);
        P.message("8: accept again", x, 3, 3, 0, 2, 3, 2, 0);
        P.due("8: quiet is 0", x.replicaOf(0, 12), 0);
    }

    private static void tickThatCrashes() {
        Cluster x = Probe.led(2, 2);
        Probe.write(x, 0, 0, 4, 4);
        x.crashAfter(0, 0);
        P.due("8: nothing is sent", x.tickOf(0), 0);
        P.due("8: it went down", x.replicaOf(0, 0), 0);
        P.due("8: the session waits", x.sessionOf(0, 0), 2);
    }

    private static void deliverOfWrongOnes() {
        Cluster x = new Cluster(3, 1, 1, 2);
        P.due("9: none", x.deliverAt(0), NONE);
        Probe.tick(x, 0, 2);
        P.due("9: frame -1", x.deliverAt(-1), NONE);
        P.due("9: frame 1", x.deliverAt(1), NONE);
        x.turnTo(1, false);
        P.due("9: to one that is down", x.deliverAt(0), 6);
        P.due("9: it is gone", x.lookAt(3), 0);
        Probe.tick(x, 2, 2);
        x.spoilAt(0, 0, 0);
        P.due("9: spoilt", x.deliverAt(0), 0);
        P.due("9: spoilt came", x.lookAt(9), 1);
        Probe.tick(x, 0, 2);
        x.spoilAt(0, 8, 7);
        P.due("9: spoilt, to one that is down", x.deliverAt(0), 0);
        P.due("9: spoilt came too", x.lookAt(9), 2);
    }

    private static void prepare() {
        Cluster x = new Cluster(3, 2, 2, 2);
        Probe.write(x, 0, 0, 1, 1);
        Probe.write(x, 1, 1, 1, 1);
        Probe.tick(x, 0, 2);
        Probe.tick(x, 1, 3);
        Probe.tick(x, 2, 1);
        P.due("9: two candidates", x.replicaOf(0, 7) * 10 + x.replicaOf(1, 7), 31);
        x.doubleAt(1);
        P.due("9: prepare of 0 at 2", x.deliverAt(1), 1);
        P.message("9: a promise", x, 4, 2, 2, 0, 3, 1, NONE, 0);
        P.due("9: quiet stays", x.replicaOf(2, 12), 1);
        P.due("9: noted", x.journalOf(2, 0), 1);
        P.due("9: the double", x.deliverAt(3), 1);
        P.message("9: promised again", x, 4, 2, 2, 0, 3, 1);
        P.due("9: not noted again", x.journalOf(2, 0), 1);
        P.due("9: prepare of 1 at 2", x.deliverAt(2), 1);
        P.message("9: denied", x, 4, 7, 2, 1, 3, 0);
        P.due("9: prepare of 0 at 1", x.deliverAt(0), 1);
        P.due("9: the candidate follows", x.replicaOf(1, 6), 0);
        P.due("9: without a ballot", x.replicaOf(1, 7), 0);
        P.due("9: without answers", x.replicaOf(1, 8), 0);
        prepareOfOneBehind();
    }

    private static void prepareOfOneBehind() {
        Cluster x = Probe.led(2, 1);
        Probe.write(x, 0, 0, 2, 2);
        Probe.tick(x, 0, 1);
        Probe.deliverBut(x, 2);
        Probe.write(x, 1, 2, 3, 3);
        Probe.tick(x, 2, 3);
        Probe.lose(x);
        Probe.tick(x, 2, 1);
        P.message("9: prepare of one behind", x, 0, 1, 2, 0, 5, 2);
        x.deliverAt(0);
        P.message("9: helped with what is kept", x, 1, 5, 0, 2, 0, 2, 0);
        P.due("9: seen but not promised", x.replicaOf(0, 9) * 10 + x.replicaOf(0, 4), 53);
    }

    private static void promise() {
        Cluster x = new Cluster(5, 2, 2, 2);
        Probe.tick(x, 0, 1);
        Probe.write(x, 0, 0, 1, 1);
        x.tickOf(0);
        for (int i = 0; i < 4; i++) {
            x.deliverAt(0);
        }
        x.doubleAt(0);
        x.deliverAt(0);
        P.due("9: two have answered", x.replicaOf(0, 8), 3);
        x.deliverAt(3);
        P.due("9: not twice", x.replicaOf(0, 6), 1);
        x.tickOf(0);
        P.due("9: three have", x.deliverAt(0), 2);
        P.due("9: that is more than half", x.replicaOf(0, 6), 2);
        P.due("9: proposes", x.replicaOf(0, 11), 0);
        P.due("9: it alone", x.replicaOf(0, 8), 1);
        P.due("9: quiet is 0", x.replicaOf(0, 12), 0);
        P.due("9: a promise more", x.deliverAt(0), 2);
        P.due("9: changes nothing", x.replicaOf(0, 8), 1);
        P.due("9: a promise and accepts in flight", x.lookAt(3), 5);
        Cluster y = new Cluster(3, 2, 2, 2);
        Probe.write(y, 0, 0, 1, 1);
        Probe.tick(y, 0, 2);
        y.deliverAt(0);
        Probe.tick(y, 0, 2);
        P.due("9: a promise for an older ballot", y.deliverAt(1), 2);
        P.due("9: does not count", y.replicaOf(0, 8) * 10 + y.replicaOf(0, 6), 11);
        Cluster z = new Cluster(4, 2, 2, 2);
        Probe.write(z, 0, 0, 1, 1);
        Probe.tick(z, 0, 2);
        P.come(z, 1, 0, 2);
        P.come(z, 2, 2, 0);
        P.due("9: half of four are not enough", z.replicaOf(0, 8) * 10 + z.replicaOf(0, 6), 51);
        P.come(z, 1, 0, 3);
        P.come(z, 2, 3, 0);
        P.due("9: three of four are", z.replicaOf(0, 8) * 10 + z.replicaOf(0, 6), 12);
        P.come(z, 3, 0, 1);
        P.come(z, 3, 0, 2);
        P.come(z, 4, 1, 0);
        P.due("9: half of four do not choose", z.replicaOf(0, 8) * 10 + z.replicaOf(0, 1), 30);
        P.come(z, 4, 2, 0);
        P.due("9: three of four do", z.replicaOf(0, 1), 1);
    }

    /** What was accepted with a lesser ballot is proposed again by the next leader. */
    private static void promiseThatTells() {
        Cluster x = new Cluster(3, 2, 2, 2);
        Probe.write(x, 0, 0, 1, 1);
        Probe.tick(x, 0, 2);
        x.deliverAt(0);
        x.deliverAt(1);
        P.due("9: leads", x.replicaOf(0, 6), 2);
        x.deliverAt(1);
        P.due("9: 1 has accepted", x.replicaOf(1, 5), 3);
        x.turnTo(0, false);
        Probe.lose(x);
        Probe.write(x, 2, 2, 7, 7);
        Probe.tick(x, 2, 4);
        P.due("9: its ballot", x.replicaOf(2, 7), 2);
        x.deliverAt(1);
        P.message("9: denied", x, 1, 7, 1, 2, 3, 0);
        x.deliverAt(1);
        P.due("9: follows", x.replicaOf(2, 6), 0);
        P.due("9: has seen it", x.replicaOf(2, 9), 3);
        Probe.lose(x);
        Probe.tick(x, 2, 4);
        P.due("9: a greater ballot", x.replicaOf(2, 7), 5);
        x.deliverAt(x.lookAt(3) - 1);
        P.message("9: told", x, x.lookAt(3) - 1, 2, 1, 2, 5, 1, 0, 3);
        x.deliverAt(x.lookAt(3) - 1);
        P.due("9: that is proposed", x.replicaOf(2, 11), 0);
        P.due("9: with its own ballot", x.replicaOf(2, 5), 5);
        P.due("9: its own waits", x.replicaOf(2, 10), 1);
    }

    /** Replica 1 of five has accepted the request of session 0 with 5, replica 2 that of session 2 with 7. */
    private static Cluster twoAccepted() {
        Cluster x = new Cluster(5, 2, 2, 2);
        Probe.write(x, 0, 0, 0, 0);
        Probe.tick(x, 0, 2);
        for (int r = 1; r < 3; r++) {
            P.come(x, 1, 0, r);
            P.come(x, 2, r, 0);
        }
        P.come(x, 3, 0, 1);
        Probe.write(x, 2, 2, 2, 2);
        Probe.tick(x, 2, 4);
        for (int r = 3; r < 5; r++) {
            P.come(x, 1, 2, r);
            P.come(x, 2, r, 2);
        }
        P.due("9: accepted", x.replicaOf(1, 5) * 10 + x.replicaOf(2, 5), 57);
        P.due("9: of the sessions", x.replicaOf(0, 11) * 10 + x.replicaOf(2, 11), 2);
        Probe.lose(x);
        return x;
    }

    private static void greatestBallotIsKept(int order) {
        int[][] whoAndWhom = {{3, 1, 2}, {3, 2, 1}, {1, 2, 4}, {2, 1, 4}};
        int who = whoAndWhom[order][0];
        Cluster x = twoAccepted();
        x.turnTo(who, false);
        x.turnTo(who, true);
        Probe.write(x, 9, who, 9, 9);
        Probe.tick(x, who, 2 + who);
        P.due("9: candidate", x.replicaOf(who, 6), 1);
        for (int i = 1; i < 3; i++) {
            P.come(x, 1, who, whoAndWhom[order][i]);
            if (x.messageOf(x.lookAt(3) - 1, 0) == 7) {
                P.come(x, 7, whoAndWhom[order][i], who);
                Probe.tick(x, who, 2 + who);
                i = 0;
            } else {
                P.come(x, 2, whoAndWhom[order][i], who);
            }
        }
        P.due("9: the greatest ballot, order " + order, x.replicaOf(who, 11), 2);
    }

    /** What was told to a campaign that is over does not count in the next one. */
    private static void promiseToAnOlderCampaign() {
        Cluster x = new Cluster(5, 2, 2, 2);
        Probe.write(x, 0, 0, 0, 0);
        Probe.tick(x, 0, 2);
        for (int r = 1; r < 3; r++) {
            P.come(x, 1, 0, r);
            P.come(x, 2, r, 0);
        }
        P.come(x, 3, 0, 1);
        Probe.lose(x);
        Probe.write(x, 3, 3, 3, 3);
        Probe.tick(x, 3, 5);
        P.come(x, 1, 3, 1);
        P.come(x, 7, 1, 3);
        Probe.tick(x, 3, 5);
        P.come(x, 1, 3, 1);
        P.come(x, 2, 1, 3);
        P.due("9: two have answered", x.replicaOf(3, 8), 10);
        Probe.lose(x);
        Probe.tick(x, 3, 2);
        P.due("9: it alone", x.replicaOf(3, 8), 8);
        P.come(x, 1, 3, 2);
        P.come(x, 2, 2, 3);
        P.come(x, 1, 3, 4);
        P.come(x, 2, 4, 3);
        P.due("9: its own is proposed", x.replicaOf(3, 11), 3);
    }

    /** An answer to what the leader proposed with an older ballot does not count. */
    private static void acceptedOfOlderBallot() {
        Cluster x = new Cluster(3, 2, 2, 2);
        Probe.write(x, 0, 0, 0, 0);
        Probe.tick(x, 0, 2);
        P.come(x, 1, 0, 1);
        P.come(x, 2, 1, 0);
        P.come(x, 3, 0, 1);
        P.message("9: accepted with 3", x, x.lookAt(3) - 1, 4, 1, 0, 3, 1);
        x.turnTo(0, false);
        x.turnTo(0, true);
        x.retryAt(0, 0);
        Probe.tick(x, 0, 2);
        P.come(x, 1, 0, 2);
        P.come(x, 2, 2, 0);
        P.due("9: leads with 6", x.replicaOf(0, 7) * 10 + x.replicaOf(0, 6), 62);
        P.come(x, 4, 1, 0);
        P.due("9: not answered", x.replicaOf(0, 8) * 10 + x.replicaOf(0, 1), 10);
        P.come(x, 3, 0, 2);
        P.come(x, 4, 2, 0);
        P.due("9: chosen", x.replicaOf(0, 1), 1);
    }

    /** One that has its state from another decides like that. */
    private static void piecesTellWhatWasWritten() {
        Cluster x = Probe.led(2, 1);
        Probe.decideBehind(x);
        x.beginAt(5, 0, false);
        x.readKey(5, 7);
        x.writeKey(5, 8, 8);
        Probe.decideBehind(x);
        Probe.tick(x, 2, 2);
        Probe.deliver(x);
        P.due("9: a state came", x.replicaOf(2, 1) * 10 + x.replicaOf(2, 2), 33);
        x.commitIt(5);
        Probe.tick(x, 0, 1);
        Probe.deliver(x);
        P.due("9: all have it", x.replicaOf(2, 1), 4);
        P.due("9: verdict of the leader", x.knownOf(0, 5, true), 2);
        P.due("9: verdict of the one that was behind", x.knownOf(2, 5, true), 2);
    }

    private static void accept() {
        Cluster x = Probe.led(2, 2);
        Probe.write(x, 0, 0, 4, 4);
        Probe.tick(x, 1, 1);
        Probe.tick(x, 0, 1);
        int before = x.journalOf(1, 0);
        x.doubleAt(0);
        x.doubleAt(0);
        x.deliverAt(0);
        P.message("9: accepted", x, 3, 4, 1, 0, 3, 2);
        P.due("9: with its ballot", x.replicaOf(1, 5), 3);
        P.due("9: quiet is 0", x.replicaOf(1, 12), 0);
        x.deliverAt(1);
        P.due("9: noted each time", x.journalOf(1, 0), before + 2);
        Probe.deliverBut(x, 2);
        Probe.write(x, 1, 0, 5, 5);
        Probe.tick(x, 0, 1);
        x.deliverAt(1);
        P.message("9: too far ahead", x, 1, 6, 2, 0, 0, 2);
        P.due("9: nothing accepted", x.replicaOf(2, 5), NONE);
        Cluster y = Probe.led(2, 2);
        Probe.write(y, 0, 0, 4, 4);
        Probe.tick(y, 0, 1);
        y.doubleAt(1);
        y.deliverAt(0);
        for (int i = 0; i < 3; i++) {
            y.deliverAt(2);
        }
        P.due("9: it is learnt", y.replicaOf(2, 1), 2);
        y.deliverAt(0);
        P.message("9: a slot that is known", y, y.lookAt(3) - 1, 5, 2, 0, 0, 2, 0);
        acceptOfOlderBallot();
    }

    private static void acceptOfOlderBallot() {
        Cluster x = Probe.led(2, 2);
        Probe.write(x, 0, 0, 4, 4);
        Probe.tick(x, 0, 1);
        Probe.write(x, 1, 1, 5, 5);
        Probe.tick(x, 1, 3);
        P.message("9: prepare of 1", x, 4, 1, 1, 0, 4, 2);
        P.due("9: forwards while it waits", x.messageOf(3, 0), 9);
        x.deliverAt(5);
        x.deliverAt(1);
        P.message("9: an older ballot", x, x.lookAt(3) - 1, 7, 2, 0, 4, 0);
        x.deliverAt(x.lookAt(3) - 1);
        P.due("9: the leader follows", x.replicaOf(0, 6), 0);
        P.due("9: with nothing proposed", x.replicaOf(0, 11), NONE);
        P.due("9: what it accepted stays", x.replicaOf(0, 5), 3);
    }

    private static void accepted() {
        Cluster x = new Cluster(5, 2, 2, 2);
        Probe.write(x, 0, 0, 1, 1);
        Probe.write(x, 1, 0, 2, 2);
        Probe.tick(x, 0, 2);
        for (int i = 0; i < 6; i++) {
            x.deliverAt(0);
        }
        P.due("9: leads", x.replicaOf(0, 6), 2);
        x.loseAt(0);
        x.loseAt(0);
        x.deliverAt(0);
        x.deliverAt(0);
        x.doubleAt(2);
        x.deliverAt(2);
        P.due("9: two have answered", x.replicaOf(0, 8), 3);
        x.deliverAt(3);
        P.due("9: not twice", x.replicaOf(0, 1), 0);
        Probe.tick(x, 0, 1);
        x.deliverAt(2);
        P.due("9: chosen and learnt", x.replicaOf(0, 1), 1);
        P.due("9: and told", x.sessionOf(0, 0), 3);
        P.due("9: it waits no more", x.replicaOf(0, 10), 1);
        P.message("9: chosen to all", x, 2, 5, 0, 1, 0, 1, 0);
        P.message("9: chosen to the last", x, 5, 5, 0, 4, 0, 1, 0);
        P.message("9: then the next", x, 6, 3, 0, 1, 5, 2, 1);
        P.due("9: proposed", x.replicaOf(0, 11), 1);
        P.due("9: quiet is 0", x.replicaOf(0, 12), 0);
        acceptedAndCrash();
        acceptedAndCrashLater();
    }

    private static void acceptedAndCrash() {
        Cluster x = Probe.led(2, 2);
        Probe.write(x, 0, 0, 4, 4);
        Probe.tick(x, 0, 1);
        x.deliverAt(0);
        x.crashAfter(0, 0);
        P.due("9: accepted", x.deliverAt(1), 4);
        P.due("9: it is down", x.replicaOf(0, 0), 0);
        P.due("9: what it sent ahead of that stays", x.lookAt(3), 3);
        P.message("9: chosen", x, 2, 5, 0, 2, 0, 2, 0);
        P.due("9: nobody is told", x.sessionOf(0, 0), 2);
        x.deliverAt(1);
        P.due("9: another learns", x.replicaOf(1, 1), 2);
        x.turnTo(0, true);
        P.due("9: it has not learnt", x.replicaOf(0, 1) * 10 + x.replicaOf(0, 5), 13);
        P.due("9: another tells", x.retryAt(0, 1), 3);
    }

    private static void acceptedAndCrashLater() {
        Cluster x = Probe.led(2, 2);
        Probe.write(x, 0, 0, 4, 4);
        Probe.write(x, 1, 0, 5, 5);
        Probe.tick(x, 0, 1);
        x.deliverAt(0);
        x.crashAfter(0, 1);
        P.due("9: accepted", x.deliverAt(1), 4);
        P.due("9: it learnt, and went down when it proposed", x.replicaOf(0, 0), 0);
        P.due("9: the session was told", x.sessionOf(0, 0), 3);
        P.due("9: chosen alone was sent", x.lookAt(3), 3);
        x.turnTo(0, true);
        P.due("9: it has learnt", x.replicaOf(0, 1) * 10 + x.replicaOf(0, 5), 19);
    }

    private static void chosenAndAsk() {
        Cluster x = Probe.led(2, 2);
        Probe.write(x, 0, 0, 2, 20);
        Probe.tick(x, 0, 1);
        Probe.deliverBut(x, 2);
        Probe.write(x, 1, 0, 3, 30);
        Probe.tick(x, 0, 1);
        x.loseAt(1);
        x.deliverAt(0);
        x.deliverAt(0);
        P.message("9: chosen", x, 1, 5, 0, 2, 0, 3, 1);
        x.deliverAt(1);
        P.message("9: too far ahead", x, 1, 6, 2, 0, 0, 2);
        x.deliverAt(1);
        P.message("9: helped", x, 1, 5, 0, 2, 0, 2, 0);
        Probe.tick(x, 2, 1);
        x.deliverAt(1);
        P.due("9: learnt", x.replicaOf(2, 1), 2);
        P.due("9: quiet is 0", x.replicaOf(2, 12), 0);
        Probe.deliver(x);
        Probe.tick(x, 2, 2);
        x.deliverAt(0);
        P.message("9: asked once more", x, 0, 5, 0, 2, 0, 3, 1);
        x.deliverAt(0);
        P.due("9: all is known", x.replicaOf(2, 1), 3);
        Probe.tick(x, 2, 2);
        x.deliverAt(0);
        P.due("9: nothing to help with", x.lookAt(3), 0);
        learnChangesRoles();
    }

    private static void learnChangesRoles() {
        Cluster x = Probe.led(2, 2);
        Probe.write(x, 0, 0, 2, 20);
        Probe.tick(x, 0, 1);
        Probe.write(x, 1, 2, 3, 30);
        x.deliverAt(0);
        x.deliverAt(1);
        x.loseAt(0);
        Probe.tick(x, 2, 4);
        P.due("9: candidate", x.replicaOf(2, 6), 1);
        P.message("9: chosen", x, 1, 5, 0, 2, 0, 2, 0);
        x.deliverAt(1);
        P.due("9: a candidate follows", x.replicaOf(2, 6), 0);
        P.due("9: its promise stays", x.replicaOf(2, 4), 5);
        P.due("9: the leader leads on", x.replicaOf(0, 6), 2);
        P.due("9: with nothing proposed", x.replicaOf(0, 11) * 10 + x.replicaOf(0, 8), -10);
    }

    private static void deny() {
        Cluster x = new Cluster(3, 2, 2, 2);
        Probe.write(x, 0, 0, 1, 1);
        Probe.write(x, 1, 1, 1, 1);
        Probe.tick(x, 0, 2);
        Probe.tick(x, 1, 3);
        x.deliverAt(1);
        x.deliverAt(2);
        int last = x.lookAt(3) - 1;
        P.message("9: deny", x, last, 7, 2, 1, 3, 0, NONE, 0, 0, 9);
        x.doubleAt(last);
        x.deliverAt(last);
        P.due("9: a candidate follows", x.replicaOf(1, 6), 0);
        P.due("9: and has seen", x.replicaOf(1, 9), 3);
        Probe.tick(x, 1, 3);
        P.due("9: campaigns again", x.replicaOf(1, 7), 4);
        P.due("9: an older deny", x.deliverAt(last), 7);
        P.due("9: changes nothing", x.replicaOf(1, 6), 1);
    }

    private static void forward() {
        Cluster x = Probe.led(2, 2);
        Probe.write(x, 0, 1, 2, 20);
        Probe.tick(x, 1, 2);
        x.doubleAt(0);
        x.deliverAt(0);
        P.due("9: waiting", x.replicaOf(0, 10), 1);
        x.deliverAt(0);
        P.due("9: one like it is", x.replicaOf(0, 10), 1);
        Probe.tick(x, 0, 1);
        P.due("9: proposed", x.replicaOf(0, 11), 0);
        for (int i = 0; i < 4; i++) {
            x.deliverAt(1);
        }
        P.due("9: decided", x.knownOf(0, 0, false), 1);
        P.due("9: the double", x.messageOf(0, 0), 9);
        x.deliverAt(0);
        P.due("9: what is decided does not wait", x.replicaOf(0, 10), 0);
        Probe.deliver(x);
        P.due("9: told at its home", x.sessionOf(0, 0), 3);
        P.due("9: and waits there no more", x.replicaOf(1, 10), 0);
        for (int s = 1; s < 9; s++) {
            Probe.write(x, s, 0, s, s);
        }
        Probe.write(x, 9, 1, 9, 9);
        Probe.tick(x, 1, 1);
        P.due("9: forward", x.deliverAt(0), 9);
        P.due("9: to one that is full", x.replicaOf(0, 10), 8);
    }

    private static void beat() {
        Cluster x = Probe.led(2, 2);
        Probe.write(x, 0, 0, 2, 20);
        Probe.tick(x, 0, 1);
        Probe.deliverBut(x, 2);
        Probe.tick(x, 0, 2);
        Probe.tick(x, 2, 1);
        P.message("9: beat", x, 1, 10, 0, 2, 3, 2);
        x.deliverAt(1);
        P.message("9: one behind asks", x, 1, 6, 2, 0, 0, 2);
        P.due("9: quiet is 0", x.replicaOf(2, 12), 0);
        x.deliverAt(0);
        P.due("9: one that is not says nothing", x.lookAt(3), 1);
        Probe.lose(x);
        Probe.tick(x, 0, 2);
        Probe.write(x, 1, 1, 3, 3);
        Probe.tick(x, 1, 3);
        P.due("9: campaigns", x.replicaOf(1, 7), 4);
        x.deliverAt(0);
        P.message("9: a beat of a lesser ballot", x, x.lookAt(3) - 1, 7, 1, 0, 4, 0);
        P.due("9: no change", x.replicaOf(1, 6) * 10 + x.replicaOf(1, 12), 10);
        beatOfGreaterBallot();
        beatOfOneBehind();
    }

    private static void beatOfGreaterBallot() {
        Cluster x = new Cluster(3, 2, 2, 2);
        Probe.write(x, 1, 1, 1, 1);
        Probe.tick(x, 1, 3);
        Probe.lose(x);
        Probe.write(x, 0, 0, 1, 1);
        Probe.tick(x, 0, 2);
        Probe.deliverBut(x, 1);
        Probe.tick(x, 0, 2);
        P.due("9: candidate", x.replicaOf(1, 6), 1);
        P.message("9: a beat", x, 0, 10, 0, 1, 3, 1);
        x.deliverAt(0);
        P.due("9: of a greater ballot", x.replicaOf(1, 6), 0);
        P.due("9: it is not promised", x.replicaOf(1, 4), 1);
        P.due("9: but seen", x.replicaOf(1, 9), 3);
    }

    private static void beatOfOneBehind() {
        Cluster x = Probe.led(2, 1);
        Probe.tick(x, 0, 2);
        Probe.decideBehind(x);
        P.message("9: a beat of slot 1", x, 0, 10, 0, 1, 3, 1);
        x.deliverAt(0);
        P.message("9: is helped with slot 2", x, x.lookAt(3) - 1, 5, 1, 0, 0, 2);
    }

    private static void pieces() {
        Cluster x = Probe.led(2, 1);
        for (int i = 0; i < 2; i++) {
            Probe.write(x, 0, 0, i, 100 + i);
            Probe.tick(x, 0, 1);
            Probe.deliverBut(x, 2);
        }
        Probe.write(x, 1, 2, 9, 9);
        x.retryAt(1, 1);
        x.retryAt(1, 2);
        Probe.tick(x, 2, 4);
        x.deliverAt(x.lookAt(3) - 2);
        int first = x.lookAt(3) - 2;
        P.message("9: piece 0", x, first, 8, 0, 2, 0, 3, NONE, 0, 0, 76, 0);
        P.message("9: piece 1", x, first + 1, 8, 0, 2, 0, 3, NONE, 0, 0, 49, 1);
        P.due("9: it is a candidate", x.replicaOf(2, 6), 1);
        x.doubleAt(first + 1);
        x.deliverAt(first + 1);
        P.due("9: gathered for", x.replicaOf(2, 13), 3);
        P.due("9: gathered", x.replicaOf(2, 14), 2);
        x.deliverAt(first + 1);
        P.due("9: so already", x.replicaOf(2, 14), 2);
        int records = x.journalOf(2, 0);
        x.deliverAt(first);
        P.due("9: all are here", x.replicaOf(2, 1), 3);
        P.due("9: horizon", x.replicaOf(2, 2), 3);
        P.due("9: base", x.replicaOf(2, 3), 3);
        P.due("9: nothing accepted", x.replicaOf(2, 5), NONE);
        P.due("9: follows", x.replicaOf(2, 6), 0);
        P.due("9: pieces go", x.replicaOf(2, 13) * 10 + x.replicaOf(2, 14), -10);
        P.due("9: quiet is 0", x.replicaOf(2, 12), 0);
        P.due("9: noted", x.journalOf(2, 0), records + 1);
        P.due("9: value", x.valueAt(2, 1, 3), 101);
        P.due("9: what was there ahead is not", Probe.valueThrows(x, 2, 1, 2), true);
        P.due("9: known seq", x.knownOf(2, 0, false), 2);
        P.due("9: none kept", x.slotOf(2, 3, 0), NONE);
        P.due("9: its own waits on", x.replicaOf(2, 10), 1);
        x.turnTo(2, false);
        x.turnTo(2, true);
        P.due("9: read again", x.replicaOf(2, 1) * 100 + x.replicaOf(2, 2) * 10 + x.replicaOf(2, 3), 333);
        P.due("9: value read again", x.valueAt(2, 0, 3), 100);
    }

    private static void piecesOfLesserIndex() {
        Cluster x = Probe.led(2, 1);
        Probe.decideBehind(x);
        Probe.decideBehind(x);
        Probe.tick(x, 2, 4);
        x.deliverAt(0);
        x.loseAt(x.lookAt(3) - 1);
        P.due("9: piece 0 of 3 is left", x.messageOf(x.lookAt(3) - 1, 9), 0);
        x.doubleAt(x.lookAt(3) - 1);
        x.deliverAt(x.lookAt(3) - 1);
        P.due("9: gathered for 3", x.replicaOf(2, 13) * 10 + x.replicaOf(2, 14), 31);
        int old = x.lookAt(3) - 1;
        Probe.decideBehind(x);
        Probe.lose(x, old + 1);
        Probe.tick(x, 2, 2);
        x.deliverAt(x.lookAt(3) - 1);
        x.deliverAt(x.lookAt(3) - 1);
        P.due("9: gathered for 4", x.replicaOf(2, 13) * 10 + x.replicaOf(2, 14), 42);
        x.deliverAt(old);
        P.due("9: one of a lesser index", x.replicaOf(2, 13) * 10 + x.replicaOf(2, 14), 42);
        Probe.deliver(x);
        P.due("9: all of 4", x.replicaOf(2, 1), 4);
    }
}
