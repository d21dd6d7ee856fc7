/** Edges of promise 9: the pieces of a state, and what is learnt and told. */
final class PieceEdges {

    private static final int NONE = SnapCluster.NONE;

    private PieceEdges() {
    }

    // "STATE (8), a PIECE of that with INDEX s: if s is not above its own INDEX, or below the INDEX that
    // PIECES are gathered for, nothing; if PIECES are gathered for a lesser one, or for none, these go, and
    // they are gathered for s from now on. The PIECE is gathered (one that is so already changes nothing)."

    /** Replica 2 knows slot 1, the others know up to slot 3 and keep 1; all pieces of that state fly to 2. */
    private static Cluster piecesFly(int versions) {
        Cluster x = Probe.led(versions, 1);
        Probe.decideBehind(x);
        Probe.decideBehind(x);
        sendPieces(x);
        return x;
    }

    private static void sendPieces(Cluster x) {
        for (int i = 0; i < 2 && Probe.find(x, 6, 2, 0) < 0; i++) {
            x.tickOf(2);
        }
        x.deliverAt(Probe.find(x, 6, 2, 0));
    }

    private static void gathered(Probe p, Cluster x, int index, int which) {
        p.due("gathered for", x.replicaOf(2, 13), index);
        p.due("gathered", x.replicaOf(2, 14), which);
    }

    static void promise9StateFirstPiece(Probe p) {
        Cluster x = piecesFly(2);
        x.tickOf(2);
        int records = x.journalOf(2, 0);
        p.due("two pieces fly", x.lookAt(3), 2);
        p.due("comes", x.deliverAt(0), 8);
        gathered(p, x, 3, 1);
        p.due("index", x.replicaOf(2, 1), 1);
        p.due("nothing is noted", x.journalOf(2, 0), records);
        p.due("quiet stays", x.replicaOf(2, 12), 1);
    }

    static void promise9StateLastPieceFirst(Probe p) {
        Cluster x = piecesFly(2);
        p.due("comes", x.deliverAt(1), 8);
        gathered(p, x, 3, 2);
        p.due("comes", x.deliverAt(0), 8);
        gathered(p, x, NONE, 0);
        p.due("index", x.replicaOf(2, 1), 3);
    }

    static void promise9StateSamePieceTwice(Probe p) {
        Cluster x = piecesFly(2);
        x.doubleAt(0);
        x.deliverAt(0);
        x.deliverAt(1);
        gathered(p, x, 3, 1);
        p.due("index", x.replicaOf(2, 1), 1);
        x.deliverAt(0);
        p.due("index", x.replicaOf(2, 1), 3);
    }

    static void promise9StateSlotIsIndex(Probe p) {
        Cluster x = piecesFly(2);
        x.doubleAt(0);
        x.doubleAt(1);
        x.deliverAt(0);
        x.deliverAt(0);
        x.tickOf(2);
        int records = x.journalOf(2, 0);
        p.due("comes again", x.deliverAt(0), 8);
        gathered(p, x, NONE, 0);
        p.due("comes again", x.deliverAt(0), 8);
        gathered(p, x, NONE, 0);
        p.due("nothing is noted", x.journalOf(2, 0), records);
        p.due("quiet stays", x.replicaOf(2, 12), 1);
    }

    static void promise9StateSlotBelowIndex(Probe p) {
        Cluster x = piecesFly(2);
        Probe.decideBehind(x);
        sendPieces(x);
        p.due("two of 3 and two of 4", x.lookAt(3), 4);
        x.deliverAt(2);
        x.deliverAt(2);
        p.due("index", x.replicaOf(2, 1), 4);
        p.due("one of 3", x.deliverAt(0), 8);
        gathered(p, x, NONE, 0);
    }

    static void promise9StateSlotBelowThatOfThePieces(Probe p) {
        Cluster x = piecesFly(2);
        Probe.decideBehind(x);
        sendPieces(x);
        x.deliverAt(3);
        gathered(p, x, 4, 2);
        p.due("one of 3", x.deliverAt(0), 8);
        gathered(p, x, 4, 2);
        p.due("the other of 3", x.deliverAt(0), 8);
        gathered(p, x, 4, 2);
        p.due("index", x.replicaOf(2, 1), 1);
        p.due("the other of 4", x.deliverAt(0), 8);
        p.due("index", x.replicaOf(2, 1), 4);
    }

    static void promise9StateSlotAboveThatOfThePieces(Probe p) {
        Cluster x = piecesFly(2);
        Probe.decideBehind(x);
        sendPieces(x);
        x.deliverAt(0);
        gathered(p, x, 3, 1);
        p.due("one of 4", x.deliverAt(2), 8);
        gathered(p, x, 4, 2);
        p.due("index", x.replicaOf(2, 1), 1);
        p.due("the other of 4", x.deliverAt(1), 8);
        p.due("index", x.replicaOf(2, 1), 4);
        p.due("value at 4", x.valueAt(2, 7, 4), x.valueAt(0, 7, 4));
    }

    /** "PIECES of 64 bytes and a last one of the rest, 1 .. 64": 97 bytes and 2 for each version. */
    static void promise9StateLastPieceOfOneByte(Probe p) {
        Cluster x = piecesFly(16);
        p.due("three pieces", x.lookAt(3), 3);
        for (int piece = 0; piece < 3; piece++) {
            p.message("piece " + piece, x, piece, 8, 0, 2, 0, 3, NONE, 0, 0, piece < 2 ? 76 : 13, piece);
        }
        x.deliverAt(2);
        gathered(p, x, 3, 4);
        x.deliverAt(0);
        gathered(p, x, 3, 5);
        x.deliverAt(0);
        p.due("index", x.replicaOf(2, 1), 3);
        gathered(p, x, NONE, 0);
    }

    static void promise9StateLastPieceOfAlmostAll(Probe p) {
        Cluster x = piecesFly(15);
        p.due("two pieces", x.lookAt(3), 2);
        p.message("piece 1", x, 1, 8, 0, 2, 0, 3, NONE, 0, 0, 75, 1);
        x.deliverAt(0);
        x.deliverAt(0);
        p.due("index", x.replicaOf(2, 1), 3);
    }

    static void promise9StateOfOneVersion(Probe p) {
        Cluster x = piecesFly(1);
        p.due("two pieces", x.lookAt(3), 2);
        p.message("piece 1", x, 1, 8, 0, 2, 0, 3, NONE, 0, 0, 47, 1);
        x.deliverAt(1);
        x.deliverAt(0);
        p.due("index", x.replicaOf(2, 1), 3);
    }

    // "When all are: 4 and the STATE are NOTED; that is its STATE (the PIECES go, when it is TOLD); HORIZON
    // and BASE are its INDEX then, no REQUEST is kept, nothing is ACCEPTED; a CANDIDATE or LEADER becomes
    // FOLLOWER; QUIET is 0; TOLD as by LEARNING."

    static void promise9StateIsWhole(Probe p) {
        Cluster x = piecesFly(2);
        x.tickOf(2);
        int records = x.journalOf(2, 0);
        p.due("kept ahead", x.slotOf(2, 1, 0), 15);
        x.deliverAt(0);
        x.deliverAt(0);
        int[] wanted = {1, 3, 3, 3, 3, NONE, 0, 0, 0, 3, 0, NONE, 0, NONE, 0};
        for (int what = 0; what < wanted.length; what++) {
            p.due("replicaOf " + what, x.replicaOf(2, what), wanted[what]);
        }
        p.due("noted", x.journalOf(2, 0), records + 1);
        p.due("slot 1", x.slotOf(2, 1, 0), NONE);
        p.due("slot 3", x.slotOf(2, 3, 0), NONE);
        p.due("seq and verdict", x.knownOf(2, 7, false) * 10 + x.knownOf(2, 7, true), 21);
        p.due("below the horizon", Probe.valueThrows(x, 2, 15, 2), true);
        p.due("value", x.valueAt(2, 15, 3), 1);
    }

    static void promise9StateIsReadAgain(Probe p) {
        Cluster x = piecesFly(2);
        x.deliverAt(0);
        x.deliverAt(0);
        x.turnTo(2, false);
        x.turnTo(2, true);
        int[] wanted = {1, 3, 3, 3, 3, NONE, 0, 0, 0, 3, 0, NONE, 0, NONE, 0};
        for (int what = 0; what < wanted.length; what++) {
            p.due("replicaOf " + what, x.replicaOf(2, what), wanted[what]);
        }
    }

    /** Behind a state it keeps and remembers from there on. */
    static void promise9StateAndThenSlots(Probe p) {
        Cluster x = piecesFly(2);
        x.deliverAt(0);
        x.deliverAt(0);
        Probe.decide(x, 4, 4, 44);
        p.due("index and horizon", x.replicaOf(2, 1) * 10 + x.replicaOf(2, 2), 43);
        p.due("the slot ahead of the first", x.replicaOf(2, 3), 3);
        p.due("slot 4", x.slotOf(2, 4, 0), 4);
        p.due("values", x.valueAt(2, 4, 3) * 100 + x.valueAt(2, 4, 4), 44);
        Probe.decide(x, 4, 4, 45);
        Probe.decide(x, 4, 4, 46);
        p.due("index and horizon", x.replicaOf(2, 1) * 10 + x.replicaOf(2, 2), 64);
    }

    /** The state tells what is written at the last V indices: the oldest of these decides here as there. */
    static void promise9StateTellsWhatIsWritten(Probe p) {
        for (int key = 3; key < 7; key++) {
            Cluster x = Probe.led(3, 1);
            x.beginAt(4, 0, false);
            x.readKey(4, key);
            x.writeKey(4, 9, 9);
            for (int i = 3; i < 6; i++) {
                Probe.write(x, 5, 0, i, i);
                x.tickOf(0);
                Probe.deliverBut(x, 2);
            }
            sendPieces(x);
            Probe.deliver(x);
            p.due("a state came", x.replicaOf(2, 1) * 10 + x.replicaOf(2, 2), 44);
            x.commitIt(4);
            x.tickOf(0);
            Probe.deliver(x);
            p.due("learnt behind it", x.replicaOf(2, 1) * 10 + x.replicaOf(2, 2), 54);
            p.due("verdict of one that read key " + key, x.knownOf(2, 4, true), key < 6 ? 2 : 1);
            p.due("as with the others", x.knownOf(1, 4, true), key < 6 ? 2 : 1);
        }
    }

    static void promise9StateToCandidate(Probe p) {
        Cluster x = Probe.led(2, 1);
        Probe.decideBehind(x);
        Probe.decideBehind(x);
        Probe.write(x, 5, 2, 1, 1);
        Probe.tick(x, 2, 5);
        x.deliverAt(Probe.find(x, 1, 2, 1));
        p.due("candidate", x.replicaOf(2, 6) * 10 + x.replicaOf(2, 7), 15);
        x.deliverAt(Probe.last(x));
        p.due("candidate still", x.replicaOf(2, 6) * 10 + x.replicaOf(2, 12), 11);
        x.deliverAt(Probe.last(x));
        p.due("follows", x.replicaOf(2, 6) * 10 + x.replicaOf(2, 7), 0);
        p.due("no answers", x.replicaOf(2, 8), 0);
        p.due("quiet", x.replicaOf(2, 12), 0);
        p.due("its own waits on", x.replicaOf(2, 10), 1);
        p.due("index", x.replicaOf(2, 1), 3);
    }

    /** Leader 0 of ballot 3 has a proposed one for slot 2, and is helped by 1, who leads with 4 since. */
    static void promise9StateToLeader(Probe p) {
        Cluster x = Probe.led(2, 1);
        Probe.write(x, 4, 0, 1, 1);
        x.tickOf(0);
        Probe.write(x, 5, 1, 2, 2);
        Probe.write(x, 6, 1, 3, 3);
        Probe.tick(x, 1, 3);
        p.come(x, 1, 1, 2);
        p.come(x, 2, 2, 1);
        for (int i = 0; i < 2; i++) {
            p.come(x, 3, 1, 2);
            p.come(x, 4, 2, 1);
            p.come(x, 5, 1, 2);
        }
        p.due("index", x.replicaOf(1, 1), 3);
        p.come(x, 3, 0, 1);
        p.due("leader with a proposed one", x.replicaOf(0, 6) * 10 + x.replicaOf(0, 11), 24);
        p.due("accepted", x.replicaOf(0, 5), 3);
        x.tickOf(0);
        p.come(x, 8, 1, 0);
        p.due("leads still", x.replicaOf(0, 6), 2);
        p.come(x, 8, 1, 0);
        p.due("follows", x.replicaOf(0, 6) * 10 + x.replicaOf(0, 7), 0);
        p.due("nothing is proposed", x.replicaOf(0, 11), NONE);
        p.due("nothing is accepted", x.replicaOf(0, 5), NONE);
        p.due("index", x.replicaOf(0, 1), 3);
        p.due("quiet", x.replicaOf(0, 12), 0);
        p.due("promised stays", x.replicaOf(0, 4), 3);
    }

    static void promise9StateTellsAndDrops(Probe p) {
        Cluster x = Probe.led(2, 1);
        Probe.write(x, 4, 0, 1, 1);
        x.retryAt(4, 2);
        x.tickOf(0);
        Probe.deliverBut(x, 2);
        Probe.decideBehind(x);
        Probe.write(x, 5, 2, 2, 2);
        p.due("two wait at 2", x.replicaOf(2, 10), 2);
        p.due("the session waits", x.sessionOf(4, 0), 2);
        Probe.tick(x, 2, 4);
        p.come(x, 1, 2, 0);
        x.deliverAt(Probe.last(x));
        x.deliverAt(Probe.last(x));
        p.due("index", x.replicaOf(2, 1), 3);
        p.due("told", x.sessionOf(4, 0), 3);
        p.due("one waits at 2", x.replicaOf(2, 10), 1);
        p.due("the other session waits", x.sessionOf(5, 0), 2);
    }

    static void promise9StateAndCrash(Probe p) {
        Cluster x = piecesFly(2);
        x.deliverAt(0);
        x.crashAfter(2, 0);
        p.due("comes", x.deliverAt(0), 8);
        p.due("down", x.replicaOf(2, 0), 0);
        x.turnTo(2, true);
        p.due("index", x.replicaOf(2, 1), 1);
        gathered(p, x, NONE, 0);
    }

    // "To LEARN a REQUEST for slot INDEX + 1: .. it is APPLIED and kept (the oldest goes if there would be
    // more than L); nothing is ACCEPTED any more"

    static void promise9LearnKeepsSoMany(Probe p) {
        for (int kept : new int[] {1, 2, 5}) {
            Cluster x = Probe.led(2, kept);
            for (int i = 1; i < kept; i++) {
                Probe.decide(x, 3, 3, i);
            }
            p.due("slot 1 with L " + kept, x.slotOf(1, 1, 0), 15);
            p.due("slot L", x.slotOf(1, kept, 0), kept == 1 ? 15 : 3);
        }
    }

    static void promise9LearnDropsTheOldest(Probe p) {
        for (int kept : new int[] {1, 2, 5}) {
            Cluster x = Probe.led(2, kept);
            for (int i = 0; i < kept; i++) {
                Probe.decide(x, 3, 3, i);
            }
            p.due("slot 1 with L " + kept, x.slotOf(1, 1, 0), NONE);
            p.due("slot 2", x.slotOf(1, 2, 0), 3);
            p.due("the latest", x.slotOf(1, kept + 1, 0), 3);
        }
    }

    static void promise9LearnDropsWhatIsAccepted(Probe p) {
        Cluster x = Probe.led(2, 2);
        Probe.write(x, 4, 0, 1, 1);
        x.tickOf(0);
        p.come(x, 3, 0, 1);
        p.come(x, 4, 1, 0);
        p.due("accepted", x.replicaOf(1, 5), 3);
        p.come(x, 5, 0, 1);
        p.due("nothing is accepted", x.replicaOf(1, 5), NONE);
        p.due("nor by the leader", x.replicaOf(0, 5), NONE);
        p.due("promised stays", x.replicaOf(1, 4), 3);
    }

    // "PIECES that are gathered for an INDEX that is not above its own go."

    /** Replica 2 has a piece of the state of 3, and chosen ones of slots 2 and 3 fly to it. */
    private static Cluster pieceAndSlots(Probe p) {
        Cluster x = Probe.led(2, 1);
        for (int i = 0; i < 2; i++) {
            Probe.write(x, 7, 0, 7, i);
            x.tickOf(0);
            x.deliverAt(Probe.find(x, 3, 0, 1));
            x.deliverAt(Probe.find(x, 4, 1, 0));
            x.deliverAt(Probe.find(x, 5, 0, 1));
            x.loseAt(Probe.find(x, 3, 0, 2));
        }
        p.due("two that are chosen", x.lookAt(3), 2);
        sendPieces(x);
        p.come(x, 8, 0, 2);
        gathered(p, x, 3, 2);
        return x;
    }

    static void promise9LearnBelowThePieces(Probe p) {
        Cluster x = pieceAndSlots(p);
        p.due("slot 2", x.deliverAt(0), 5);
        p.due("index", x.replicaOf(2, 1), 2);
        gathered(p, x, 3, 2);
    }

    static void promise9LearnUpToThePieces(Probe p) {
        Cluster x = pieceAndSlots(p);
        x.deliverAt(0);
        p.due("slot 3", x.deliverAt(0), 5);
        p.due("index", x.replicaOf(2, 1), 3);
        gathered(p, x, NONE, 0);
        p.come(x, 8, 0, 2);
        gathered(p, x, NONE, 0);
    }

    // "TOLD: each SESSION whose HOME it is, and that is WAITING with the SEQ that the STATE has for it, has
    // the VERDICT of that; WAITING REQUESTS of the REPLICA whose SEQ is not above that of their SESSION in
    // the STATE go."

    static void promise9LearnTellsThoseAtHomeAlone(Probe p) {
        Cluster x = Probe.led(2, 2);
        Probe.write(x, 4, 2, 1, 1);
        x.retryAt(4, 0);
        x.retryAt(4, 1);
        x.tickOf(0);
        p.come(x, 3, 0, 1);
        p.come(x, 4, 1, 0);
        p.due("decided at 0", x.knownOf(0, 4, true), 1);
        p.due("not told by 0", x.sessionOf(4, 0), 2);
        p.come(x, 5, 0, 2);
        p.due("not told by 2", x.sessionOf(4, 0), 2);
        p.come(x, 5, 0, 1);
        p.due("told by 1", x.sessionOf(4, 0), 3);
        p.due("no home", x.sessionOf(4, 2), NONE);
        p.due("waits nowhere", x.replicaOf(0, 10) + x.replicaOf(1, 10) + x.replicaOf(2, 10), 0);
    }

    /** The home learns another request, and knows the session by the seq ahead of the one that waits. */
    static void promise9LearnTellsThatSeqAlone(Probe p) {
        Cluster x = Probe.led(2, 2);
        Probe.write(x, 15, 1, 1, 1);
        Probe.decide(x, 4, 4, 4);
        p.due("seq", x.knownOf(1, 15, false) * 10 + x.sessionOf(15, 1), 12);
        p.due("learnt", x.replicaOf(1, 1), 2);
        p.due("not told", x.sessionOf(15, 0), 2);
        p.due("waits on", x.replicaOf(1, 10), 1);
    }

    /** A session that is active, or over, is not told anything. */
    static void promise9LearnTellsThoseThatWaitAlone(Probe p) {
        Cluster x = Probe.led(2, 2);
        x.beginAt(15, 0, false);
        Probe.decide(x, 4, 4, 4);
        p.due("active", x.sessionOf(15, 0), 1);
        x.giveUp(15);
        Probe.decide(x, 4, 4, 5);
        p.due("aborted", x.sessionOf(15, 0), 4);
        p.due("its seq is known", x.knownOf(0, 15, false), x.sessionOf(15, 1));
    }

    static void promise9LearnTellsAborted(Probe p) {
        Cluster x = Probe.led(2, 2);
        x.beginAt(4, 0, false);
        x.readKey(4, 3);
        x.writeKey(4, 4, 4);
        Probe.decide(x, 5, 3, 3);
        x.commitIt(4);
        x.tickOf(0);
        Probe.deliver(x);
        p.due("aborted", x.sessionOf(4, 0), 4);
    }

    /** Three wait at replica 1, and the one between is decided: the others stay in their order. */
    static void promise9LearnDropsThoseThatAreDecided(Probe p) {
        Cluster x = Probe.led(2, 2);
        for (int s = 4; s < 7; s++) {
            Probe.write(x, s, 1, s, s);
        }
        x.retryAt(5, 0);
        x.tickOf(0);
        Probe.deliver(x);
        p.due("two wait", x.replicaOf(1, 10), 2);
        x.tickOf(1);
        p.message("the first", x, 0, 9, 1, 0, 0, 0, 4);
        p.come(x, 9, 1, 0);
        x.tickOf(0);
        Probe.deliver(x);
        p.due("one waits", x.replicaOf(1, 10), 1);
        x.tickOf(1);
        p.message("the last", x, 0, 9, 1, 0, 0, 0, 6);
    }
}
