import java.util.Arrays;

/** Edges of promises 13, 14, 16 and 17: going down and coming up, crashes, and what is on the disk. */
final class JournalEdges {

    private static final int NONE = SnapCluster.NONE;
    private static final int LEAST = Integer.MIN_VALUE;
    private static final int MOST = Integer.MAX_VALUE;
    private static final int[] NO_REPLICAS = {-1, 3, 9, LEAST, MOST};

    private JournalEdges() {
    }

    // Promise 13: "A REPLICA GOES DOWN (a CRASH that is due stays so until it comes UP), or comes UP again:
    // true; false if there is no such REPLICA, or it is so."

    static void promise13NoSuchReplica(Probe p) {
        for (int replica : NO_REPLICAS) {
            for (boolean up : new boolean[] {false, true}) {
                p.due("replica " + replica, Probe.led(2, 2).turnTo(replica, up), false);
                p.unchanged("replica " + replica, () -> Probe.led(2, 2), x -> x.turnTo(replica, up));
            }
        }
    }

    static void promise13FirstAndLastReplica(Probe p) {
        Cluster x = new Cluster(9, 1, 1, 2);
        for (int r : new int[] {0, 8}) {
            p.due("goes down", x.turnTo(r, false), true);
            p.due("is down", x.replicaOf(r, 0), 0);
            p.due("comes up", x.turnTo(r, true), true);
            p.due("is up", x.replicaOf(r, 0), 1);
        }
    }

    /** A candidate with a quiet of 1, one that waits, one that is active and a crash that is due. */
    private static Cluster busy() {
        Cluster x = Probe.led(2, 2);
        Probe.write(x, 4, 1, 1, 1);
        Probe.tick(x, 1, 4);
        x.beginAt(5, 1, false);
        x.crashAfter(1, 7);
        return x;
    }

    static void promise13UpAlready(Probe p) {
        p.due("up", busy().turnTo(1, true), false);
        p.unchanged("up", JournalEdges::busy, x -> x.turnTo(1, true));
    }

    private static Cluster busyAndDown() {
        Cluster x = busy();
        x.turnTo(1, false);
        return x;
    }

    static void promise13DownAlready(Probe p) {
        p.due("down", busyAndDown().turnTo(1, false), false);
        p.unchanged("down", JournalEdges::busyAndDown, x -> x.turnTo(1, false));
    }

    /** "When its HOME GOES DOWN an ACTIVE one is ABORTED, a WAITING one waits." */
    static void promise13HomeOfAnActiveOne(Probe p) {
        Cluster x = Probe.led(2, 2);
        x.beginAt(4, 1, false);
        x.readKey(4, 2);
        x.writeKey(4, 3, 3);
        x.beginAt(5, 1, true);
        x.beginAt(6, 0, false);
        x.turnTo(1, false);
        int[] wanted = {4, 0, NONE, 1, 4, 8};
        for (int what = 0; what < 6; what++) {
            p.due("sessionOf " + what, x.sessionOf(4, what), wanted[what]);
        }
        p.due("one that only reads", x.sessionOf(5, 0), 4);
        p.due("one of another home", x.sessionOf(6, 0), 1);
        x.turnTo(1, true);
        p.due("aborted for good", x.sessionOf(4, 0), 4);
    }

    static void promise13HomeOfTheFirstAndLastSession(Probe p) {
        Cluster x = Probe.led(2, 2);
        x.beginAt(0, 2, false);
        x.beginAt(15, 2, false);
        x.turnTo(2, false);
        p.due("both are aborted", x.sessionOf(0, 0) * 10 + x.sessionOf(15, 0), 44);
    }

    static void promise13HomeOfAWaitingOne(Probe p) {
        Cluster x = Probe.led(2, 2);
        Probe.write(x, 4, 1, 1, 1);
        x.turnTo(1, false);
        p.due("waits", x.sessionOf(4, 0), 2);
        p.due("home", x.sessionOf(4, 2), 1);
        x.turnTo(1, true);
        p.due("waits", x.sessionOf(4, 0), 2);
        p.due("nothing waits there", x.replicaOf(1, 10), 0);
        p.due("tries again", x.retryAt(4, 1), 2);
        p.due("waits there", x.replicaOf(1, 10), 1);
    }

    /** One that is over when its replica goes down stays what it is. */
    static void promise13HomeThatWas(Probe p) {
        Cluster x = Probe.led(2, 2);
        p.due("committed", x.sessionOf(15, 0), 3);
        x.turnTo(0, false);
        p.due("committed still", x.sessionOf(15, 0), 3);
    }

    static void promise13CrashThatIsDue(Probe p) {
        for (int n : new int[] {0, 7, 1000}) {
            Cluster x = Probe.led(2, 2);
            x.crashAfter(1, n);
            x.turnTo(1, false);
            p.due("due still", x.journalOf(1, 5), n);
            x.turnTo(1, true);
            p.due("due no more", x.journalOf(1, 5), NONE);
        }
    }

    /** "all is as at first": nothing was noted. */
    static void promise13JournalWithoutRecords(Probe p) {
        Cluster x = new Cluster(3, 2, 2, 3);
        Probe.write(x, 4, 2, 1, 1);
        Probe.tick(x, 2, 2);
        x.turnTo(2, false);
        p.due("comes up", x.turnTo(2, true), true);
        int[] wanted = {1, 0, 0, 0, 0, NONE, 0, 0, 0, 0, 0, NONE, 0, NONE, 0};
        for (int what = 0; what < wanted.length; what++) {
            p.due("replicaOf " + what, x.replicaOf(2, what), wanted[what]);
        }
        p.due("value", x.valueAt(2, 0, 0), 0);
        p.due("nothing is written", x.journalOf(2, 4), 0);
    }

    /** What is not noted is lost: its role, who waits, its quiet, and the pieces that it has. */
    static void promise13WhatIsNotNoted(Probe p) {
        Cluster x = Probe.led(2, 1);
        Probe.decideBehind(x);
        Probe.decideBehind(x);
        Probe.write(x, 4, 2, 1, 1);
        Probe.tick(x, 2, 5);
        p.come(x, 1, 2, 0);
        p.come(x, 8, 0, 2);
        int[] ahead = {1, 1, 0, 0, 5, NONE, 1, 5, 4, 3, 1, NONE, 1, 3, 2};
        int[] behind = {1, 1, 0, 0, 5, NONE, 0, 0, 0, 5, 0, NONE, 0, NONE, 0};
        for (int what = 0; what < ahead.length; what++) {
            p.due("replicaOf " + what + " ahead", x.replicaOf(2, what), ahead[what]);
        }
        x.turnTo(2, false);
        x.turnTo(2, true);
        for (int what = 0; what < behind.length; what++) {
            p.due("replicaOf " + what, x.replicaOf(2, what), behind[what]);
        }
    }

    /** "In the end SEEN is PROMISED": also if it had been told of a greater one. */
    static void promise13SeenIsPromised(Probe p) {
        Cluster x = Probe.led(2, 2);
        Probe.decideBehind(x);
        Probe.write(x, 4, 2, 1, 1);
        Probe.tick(x, 2, 4);
        p.come(x, 1, 2, 1);
        p.due("seen and promised", x.replicaOf(1, 9) * 10 + x.replicaOf(1, 4), 53);
        x.turnTo(1, false);
        x.turnTo(1, true);
        p.due("seen and promised", x.replicaOf(1, 9) * 10 + x.replicaOf(1, 4), 33);
    }

    /** "no SESSION is TOLD anything by this": its home learnt, and crashed ahead of telling it. */
    static void promise13NobodyIsTold(Probe p) {
        Cluster x = homeThatCrashedByLearning(p);
        x.turnTo(1, true);
        p.due("known", x.knownOf(1, 4, true), 1);
        p.due("not told", x.sessionOf(4, 0), 2);
        Probe.lose(x);
        Probe.decide(x, 6, 6, 6);
        p.due("told when it learns another one", x.sessionOf(4, 0), 3);
    }

    private static Cluster homeThatCrashedByLearning(Probe p) {
        Cluster x = withRecords(47);
        x.retryAt(4, 1);
        p.come(x, 3, 0, 2);
        p.come(x, 4, 2, 0);
        x.crashAfter(1, 1);
        p.come(x, 5, 0, 1);
        p.due("down", x.replicaOf(1, 0), 0);
        p.due("not told", x.sessionOf(4, 0), 2);
        return x;
    }

    /** "if there are 48 RECORDS or more, A CHECKPOINT is made": there are 47. */
    static void promise13FortySevenRecords(Probe p) {
        Cluster x = withRecords(47);
        int blocks = x.journalOf(1, 4);
        x.turnTo(1, false);
        x.turnTo(1, true);
        p.due("records", x.journalOf(1, 0), 47);
        p.due("generation", x.journalOf(1, 2), 1);
        p.due("nothing is written", x.journalOf(1, 4), blocks);
        p.due("accepted", x.replicaOf(1, 5), 3);
    }

    /** There are 48, for it crashed in the checkpoint: it is made when it comes up. */
    static void promise13FortyEightRecords(Probe p) {
        Cluster x = withRecords(47);
        int blocks = x.journalOf(1, 4);
        x.crashAfter(1, 1);
        x.deliverAt(0);
        p.due("down", x.replicaOf(1, 0), 0);
        p.due("written", x.journalOf(1, 4), blocks + 1);
        x.turnTo(1, true);
        p.due("up", x.replicaOf(1, 0), 1);
        p.due("records: a state, values at 0, what is accepted, what is promised", x.journalOf(1, 0), 4);
        p.due("generation", x.journalOf(1, 2), 2);
        p.due("half", x.journalOf(1, 3), 1);
        p.due("written", x.journalOf(1, 4), blocks + 3);
        p.due("accepted", x.replicaOf(1, 5), 3);
        p.due("index and horizon", x.replicaOf(1, 1) * 10 + x.replicaOf(1, 2), 10);
    }

    /** The crash was due behind the note: it is not due any more when the checkpoint is made. */
    static void promise13CheckpointAndCrashThatWasDue(Probe p) {
        Cluster x = withRecords(47);
        x.crashAfter(1, 1);
        x.deliverAt(0);
        p.due("down", x.replicaOf(1, 0), 0);
        p.due("due no more", x.journalOf(1, 5), NONE);
        p.due("can't be made due", x.crashAfter(1, 0), false);
        x.turnTo(1, true);
        p.due("up", x.replicaOf(1, 0), 1);
        p.due("generation", x.journalOf(1, 2), 2);
    }

    /** "3 and a REQUEST: that is APPLIED and kept": at most L, and the values of V indices more. */
    static void promise13ReadsWhatIsKept(Probe p) {
        for (int kept : new int[] {1, 3}) {
            Cluster x = Probe.led(2, kept);
            for (int i = 2; i < 6; i++) {
                Probe.decide(x, 4, 4, i);
            }
            x.turnTo(1, false);
            x.turnTo(1, true);
            p.due("the slot ahead of the first", x.replicaOf(1, 3), 5 - kept);
            p.due("the first that is kept", x.slotOf(1, 6 - kept, 0), 4);
            p.due("one more", x.slotOf(1, 5 - kept, 0), NONE);
            p.due("horizon", x.replicaOf(1, 2), 3);
            p.due("at the horizon", x.valueAt(1, 4, 3), 3);
            p.due("below", Probe.valueThrows(x, 1, 4, 2), true);
        }
    }

    /** Fewer than L are kept. */
    static void promise13ReadsFewThatAreKept(Probe p) {
        Cluster x = Probe.led(2, 4);
        Probe.decide(x, 0, 4, 44);
        for (int i = 0; i < 3; i++) {
            x.turnTo(1, false);
            x.turnTo(1, true);
            p.due("the slot ahead of the first", x.replicaOf(1, 3), 0);
            p.due("slot 1", x.slotOf(1, 1, 0), 15);
            p.due("slot 0", x.slotOf(1, 0, 0), NONE);
            p.due("index and horizon", x.replicaOf(1, 1) * 10 + x.replicaOf(1, 2), 20);
            p.due("value", x.valueAt(1, 4, 2), 44);
            p.due("seq and verdict", x.knownOf(1, 0, false) * 10 + x.knownOf(1, 0, true), 11);
        }
    }

    /** Numbers of one byte and of two are read again. */
    static void promise13ReadsNumbersAtTheLimitOfAByte(Probe p) {
        for (int r = 1; r < 4; r++) {
            Cluster x = new Cluster(7, 2, 2, 2);
            Probe.write(x, r, r, 1, 1);
            Probe.tick(x, r, r + 2 + 2 * 18);
            x.turnTo(r, false);
            x.turnTo(r, true);
            p.due("what is promised", x.replicaOf(r, 4), 126 + r);
        }
    }

    /** The same numbers ahead of a slot and a request. */
    static void promise13ReadsBallotsAtTheLimitOfAByte(Probe p) {
        for (int r = 1; r < 4; r++) {
            Cluster x = new Cluster(7, 2, 2, 2);
            Probe.write(x, r, r, 1, 1);
            Probe.tick(x, r, r + 2 + 2 * 18);
            for (int q = 4; q < 7; q++) {
                p.come(x, 1, r, q);
                p.come(x, 2, q, r);
            }
            x.turnTo(r, false);
            x.turnTo(r, true);
            p.due("what is promised", x.replicaOf(r, 4), 126 + r);
            p.due("what is accepted", x.replicaOf(r, 5), 126 + r);
        }
    }

    private static final int[] VALUES = {LEAST, MOST, -1, 0x01020304, 256, 65536};

    /** Session 4 reads keys 0, 7, 8 and 15, and writes keys 0, 3, 6 .. 15. */
    private static void writeValues(Cluster x) {
        x.beginAt(4, 0, false);
        for (int key : new int[] {0, 7, 8, 15}) {
            x.readKey(4, key);
        }
        for (int i = 0; i < 6; i++) {
            x.writeKey(4, 3 * i, VALUES[i]);
        }
        x.commitIt(4);
        x.tickOf(0);
    }

    private static void values(Probe p, Cluster x, int replica, int index) {
        for (int i = 0; i < 6; i++) {
            p.due("key " + 3 * i, x.valueAt(replica, 3 * i, index), VALUES[i]);
        }
    }

    /** All bytes of a value and of both sets are read again from what was learnt. */
    static void promise13ReadsAllBytesOfWhatIsLearnt(Probe p) {
        Cluster x = Probe.led(2, 2);
        writeValues(x);
        Probe.deliver(x);
        x.turnTo(1, false);
        x.turnTo(1, true);
        values(p, x, 1, 2);
        int[] wanted = {4, 1, 1, 0x8181, 0x9249};
        for (int what = 0; what < 5; what++) {
            p.due("slotOf " + what, x.slotOf(1, 2, what), wanted[what]);
        }
    }

    /** And from what is accepted: it is told and decided with them. */
    static void promise13ReadsAllBytesOfWhatIsAccepted(Probe p) {
        Cluster x = Probe.led(2, 2);
        writeValues(x);
        p.come(x, 3, 0, 1);
        x.turnTo(0, false);
        x.turnTo(1, false);
        x.turnTo(1, true);
        Probe.lose(x);
        Probe.write(x, 5, 2, 1, 1);
        Probe.tick(x, 2, 4);
        Probe.deliver(x);
        values(p, x, 2, 2);
        p.due("decided", x.slotOf(2, 2, 0) * 10 + x.replicaOf(2, 1), 43);
        p.due("sets", x.slotOf(2, 2, 3) * 0x10000L + x.slotOf(2, 2, 4), 0x81819249L);
    }

    /** And from a state that came in pieces. */
    static void promise13ReadsAllBytesOfAState(Probe p) {
        Cluster x = Probe.led(2, 1);
        writeValues(x);
        Probe.deliverBut(x, 2);
        Probe.decideBehind(x);
        Probe.tick(x, 2, 2);
        Probe.deliver(x);
        p.due("a state came", x.replicaOf(2, 2), 3);
        values(p, x, 2, 3);
        x.turnTo(2, false);
        x.turnTo(2, true);
        values(p, x, 2, 3);
    }

    /** And from a checkpoint, its state and the values of older indices. */
    static void promise13ReadsAllBytesOfACheckpoint(Probe p) {
        Cluster x = Probe.led(2, 1);
        writeValues(x);
        Probe.deliver(x);
        Probe.write(x, 5, 0, 1, 1);
        x.tickOf(0);
        Probe.deliver(x);
        acceptUntil(x, 1, 48);
        p.due("generation", x.journalOf(1, 2), 2);
        x.turnTo(1, false);
        x.turnTo(1, true);
        p.due("index and horizon", x.replicaOf(1, 1) * 10 + x.replicaOf(1, 2), 31);
        values(p, x, 1, 3);
        values(p, x, 1, 2);
        p.due("key 15 at the horizon", x.valueAt(1, 15, 1), 1);
        p.due("key 0 at the horizon", x.valueAt(1, 0, 1), 0);
    }

    /** Index 17 is the older one, whose values were written long after those of index 0. */
    static void promise13ReadsOlderValuesOfACheckpoint(Probe p) {
        Cluster x = Probe.led(1, 1);
        for (int i = 2; i < 19; i++) {
            Probe.decide(x, 5, 5, i);
        }
        acceptUntil(x, 1, 48);
        p.due("generation", x.journalOf(1, 2), 2);
        x.turnTo(1, false);
        x.turnTo(1, true);
        p.due("index and horizon", x.replicaOf(1, 1) * 100 + x.replicaOf(1, 2), 1817);
        p.due("values", x.valueAt(1, 5, 17) * 100 + x.valueAt(1, 5, 18), 1718);
        p.due("an older key", x.valueAt(1, 15, 17), 1);
    }

    /** All indices from the horizon on, of which the first have values of 0. */
    static void promise13ReadsAllIndices(Probe p) {
        Cluster x = Probe.led(16, 1);
        for (int i = 2; i < 19; i++) {
            Probe.decide(x, 5, i == 17 ? 0 : 5, i);
        }
        x.turnTo(1, false);
        x.turnTo(1, true);
        p.due("index and horizon", x.replicaOf(1, 1) * 10 + x.replicaOf(1, 2), 182);
        for (int i = 2; i < 19; i++) {
            p.due("key 5 at " + i, x.valueAt(1, 5, i), i == 17 ? 16 : i);
            p.due("key 0 at " + i, x.valueAt(1, 0, i), i < 17 ? 0 : 17);
        }
    }

    /** "4 and a STATE: .. nothing is ACCEPTED": what was accepted ahead of it is so no more. */
    static void promise13ReadsAStateBehindWhatIsAccepted(Probe p) {
        Cluster x = Probe.led(2, 1);
        Probe.write(x, 4, 0, 1, 1);
        x.tickOf(0);
        p.come(x, 3, 0, 2);
        Probe.deliverBut(x, 2);
        Probe.decideBehind(x);
        p.due("accepted", x.replicaOf(2, 5), 3);
        Probe.tick(x, 2, 2);
        Probe.deliver(x);
        p.due("a state came", x.replicaOf(2, 2), 3);
        x.turnTo(2, false);
        x.turnTo(2, true);
        p.due("nothing is accepted", x.replicaOf(2, 5), NONE);
        p.due("index", x.replicaOf(2, 1), 3);
    }

    /** "3 and a REQUEST: .. nothing is ACCEPTED" */
    static void promise13ReadsWhatIsLearntBehindWhatIsAccepted(Probe p) {
        Cluster x = Probe.led(2, 1);
        Probe.decide(x, 4, 4, 4);
        x.turnTo(1, false);
        x.turnTo(1, true);
        p.due("nothing is accepted", x.replicaOf(1, 5), NONE);
        p.due("promised", x.replicaOf(1, 4), 3);
    }

    /** Where there is no index nothing is written, also behind a reading of the journal. */
    static void promise13ReadsWhatIsWritten(Probe p) {
        Cluster x = Probe.led(8, 1);
        Probe.decideBehind(x);
        Probe.decideBehind(x);
        x.turnTo(0, false);
        x.turnTo(0, true);
        Probe.tick(x, 2, 2);
        p.come(x, 6, 2, 0);
        byte[] last = Probe.frame(x, Probe.last(x));
        byte[] written = Probe.bytes(0, 128, 0, 128, 128, 0, 0, 0, 0, 0, 0, 0, 0, 0, 0, 0);
        p.due("written", Arrays.copyOfRange(last, last.length - 20, last.length - 4), written);
    }

    /** One that came up from a checkpoint decides by what was written ahead of that. */
    static void promise13ReadsWhatIsWrittenFromACheckpoint(Probe p) {
        for (int key = 1; key < 3; key++) {
            Cluster x = Probe.led(4, 1);
            x.beginAt(6, 0, false);
            x.readKey(6, key);
            x.writeKey(6, 9, 9);
            Probe.decide(x, 5, 1, 1);
            acceptUntil(x, 1, 48);
            p.due("generation", x.journalOf(1, 2), 2);
            x.turnTo(1, false);
            x.turnTo(1, true);
            Probe.deliver(x);
            p.due("decided", x.replicaOf(1, 1), 3);
            x.commitIt(6);
            x.tickOf(0);
            Probe.deliver(x);
            p.due("verdict of one that read key " + key, x.knownOf(1, 6, true), key == 1 ? 2 : 1);
            p.due("as with the others", x.knownOf(0, 6, true), key == 1 ? 2 : 1);
        }
    }

    /** The checkpoint ends with what is promised, which is more than the ballot of what is accepted. */
    static void promise13PromisedAboveWhatIsAccepted(Probe p) {
        Cluster x = withRecords(47);
        Probe.write(x, 5, 2, 1, 1);
        Probe.tick(x, 2, 4);
        p.come(x, 1, 2, 1);
        p.due("generation", x.journalOf(1, 2), 2);
        x.turnTo(1, false);
        x.turnTo(1, true);
        p.due("promised", x.replicaOf(1, 4), 5);
        p.due("accepted", x.replicaOf(1, 5), 3);
    }

    /** "4 and a STATE: .. HORIZON and BASE are its INDEX, no REQUEST is kept": those ahead are kept no more. */
    static void promise13CheckpointKeepsNoRequest(Probe p) {
        Cluster x = withRecords(48);
        p.due("kept still", x.slotOf(1, 1, 0), 15);
        p.due("base", x.replicaOf(1, 3), 0);
        x.turnTo(1, false);
        x.turnTo(1, true);
        p.due("kept no more", x.slotOf(1, 1, 0), NONE);
        p.due("base", x.replicaOf(1, 3), 1);
        p.due("value at the horizon", x.valueAt(1, 15, 0) * 10 + x.valueAt(1, 15, 1), 1);
    }

    /** What flies stays in flight, whoever sent it. */
    static void promise13FramesOfOneThatIsDown(Probe p) {
        Cluster x = Probe.led(2, 2);
        Probe.tick(x, 0, 2);
        x.turnTo(0, false);
        p.due("frames", x.lookAt(3), 2);
        x.tickOf(1);
        p.come(x, 10, 0, 1);
        p.due("came", x.replicaOf(1, 12), 0);
    }

    // Promise 14: "A CRASH is due in n writes of a REPLICA, in place of one that was (none, if n is below 0):
    // true; false if there is no such REPLICA, it is DOWN, or n is above 1000."

    static void promise14NoSuchReplica(Probe p) {
        for (int replica : NO_REPLICAS) {
            p.due("replica " + replica, Probe.led(2, 2).crashAfter(replica, 0), false);
            p.unchanged("replica " + replica, () -> Probe.led(2, 2), x -> x.crashAfter(replica, 0));
        }
    }

    static void promise14LastReplica(Probe p) {
        Cluster x = new Cluster(9, 1, 1, 2);
        p.due("replica 8", x.crashAfter(8, 3), true);
        p.due("due", x.journalOf(8, 5), 3);
        p.due("not at another", x.journalOf(7, 5), NONE);
    }

    static void promise14Down(Probe p) {
        Cluster x = Probe.led(2, 2);
        x.crashAfter(1, 4);
        x.turnTo(1, false);
        p.due("down", x.crashAfter(1, 2), false);
        p.due("down", x.crashAfter(1, -1), false);
        p.due("as it was", x.journalOf(1, 5), 4);
    }

    static void promise14Thousand(Probe p) {
        Cluster x = Probe.led(2, 2);
        p.due("1000", x.crashAfter(1, 1000), true);
        p.due("due", x.journalOf(1, 5), 1000);
    }

    static void promise14AboveThousand(Probe p) {
        for (int n : new int[] {1001, MOST}) {
            Cluster x = Probe.led(2, 2);
            p.due("n " + n, x.crashAfter(1, n), false);
            p.due("none is due", x.journalOf(1, 5), NONE);
            x.crashAfter(1, 5);
            p.due("n " + n, x.crashAfter(1, n), false);
            p.due("as it was", x.journalOf(1, 5), 5);
        }
    }

    static void promise14BelowZero(Probe p) {
        for (int n : new int[] {-1, -2, LEAST}) {
            Cluster x = Probe.led(2, 2);
            p.due("without one", x.crashAfter(1, n), true);
            p.due("none is due", x.journalOf(1, 5), NONE);
            x.crashAfter(1, 0);
            p.due("with one", x.crashAfter(1, n), true);
            p.due("none is due", x.journalOf(1, 5), NONE);
            Probe.decide(x, 4, 4, 4);
            p.due("it does not crash", x.replicaOf(1, 0), 1);
        }
    }

    static void promise14InPlaceOfAnother(Probe p) {
        Cluster x = Probe.led(2, 2);
        x.crashAfter(1, 0);
        p.due("another", x.crashAfter(1, 9), true);
        p.due("due", x.journalOf(1, 5), 9);
        Probe.decide(x, 4, 4, 4);
        p.due("two writes less", x.journalOf(1, 5), 7);
        p.due("up", x.replicaOf(1, 0), 1);
    }

    // To WRITE: "If a CRASH is due in n writes, and n is 0, the block is not written, none is due any more,
    // and the REPLICA GOES DOWN at once: nothing more of what it does is done; if n is more, it is 1 less."

    private static Cluster acceptFlies() {
        Cluster x = Probe.led(2, 2);
        x.beginAt(5, 1, false);
        Probe.write(x, 4, 0, 1, 1);
        x.tickOf(0);
        return x;
    }

    static void promise14DueInZero(Probe p) {
        Cluster x = acceptFlies();
        byte[] block = Probe.disk(x, 1, 2, 0, 512);
        int blocks = x.journalOf(1, 4);
        x.crashAfter(1, 0);
        p.come(x, 3, 0, 1);
        p.due("down", x.replicaOf(1, 0), 0);
        p.due("the block", Probe.disk(x, 1, 2, 0, 512), block);
        p.due("blocks written", x.journalOf(1, 4), blocks);
        p.due("none is due", x.journalOf(1, 5), NONE);
        p.due("an active one is aborted", x.sessionOf(5, 0), 4);
        p.due("nothing is sent", x.lookAt(3), 1);
    }

    static void promise14DueInOne(Probe p) {
        Cluster x = acceptFlies();
        x.doubleAt(0);
        x.crashAfter(1, 1);
        p.come(x, 3, 0, 1);
        p.due("up", x.replicaOf(1, 0), 1);
        p.due("one less", x.journalOf(1, 5), 0);
        p.due("accepted", x.replicaOf(1, 5), 3);
        p.come(x, 3, 0, 1);
        p.due("down", x.replicaOf(1, 0), 0);
        p.due("none is due", x.journalOf(1, 5), NONE);
    }

    static void promise14NothingIsWritten(Probe p) {
        Cluster x = Probe.led(2, 2);
        x.crashAfter(1, 0);
        Probe.tick(x, 1, 4);
        Probe.tick(x, 0, 2);
        Probe.deliver(x);
        p.due("up", x.replicaOf(1, 0), 1);
        p.due("due still", x.journalOf(1, 5), 0);
    }

    /** A crash comes once: behind it the replica writes again. */
    static void promise14CrashComesOnce(Probe p) {
        Cluster x = acceptFlies();
        x.doubleAt(0);
        x.crashAfter(1, 0);
        p.come(x, 3, 0, 1);
        x.turnTo(1, true);
        p.come(x, 3, 0, 1);
        p.due("up", x.replicaOf(1, 0), 1);
        p.due("accepted", x.replicaOf(1, 5), 3);
    }

    /** Has leader 0 propose a request that writes so many keys. */
    private static void propose(Cluster x, int keys) {
        x.beginAt(4, 0, false);
        for (int key = 0; key < keys; key++) {
            x.writeKey(4, key, 0x01010101 * (key + 1));
        }
        x.commitIt(4);
        x.tickOf(0);
    }

    /** Replica 1 has 442 bytes, and a chosen one of 78 bytes that goes on into the next block flies to it. */
    private static Cluster nearEndOfBlock(Probe p) {
        Cluster x = Probe.led(2, 2);
        for (int i = 0; i < 2; i++) {
            propose(x, 16);
            Probe.deliver(x);
        }
        propose(x, 16);
        p.come(x, 3, 0, 1);
        p.come(x, 4, 1, 0);
        p.due("bytes", x.journalOf(1, 1), 442);
        return x;
    }

    /** "the blocks that these lie in are WRITTEN, the last one first" */
    static void promise14CrashAheadOfBothBlocks(Probe p) {
        Cluster x = nearEndOfBlock(p);
        byte[] first = Probe.disk(x, 1, 2, 0, 512);
        x.crashAfter(1, 0);
        p.come(x, 5, 0, 1);
        p.due("the first block", Probe.disk(x, 1, 2, 0, 512), first);
        p.due("the second block", Probe.disk(x, 1, 3, 0, 512), new byte[512]);
        x.turnTo(1, true);
        p.due("index", x.replicaOf(1, 1), 3);
        p.due("bytes", x.journalOf(1, 1), 442);
    }

    static void promise14CrashBetweenBothBlocks(Probe p) {
        Cluster x = nearEndOfBlock(p);
        byte[] first = Probe.disk(x, 1, 2, 0, 512);
        x.crashAfter(1, 1);
        p.come(x, 5, 0, 1);
        p.due("down", x.replicaOf(1, 0), 0);
        p.due("the first block", Probe.disk(x, 1, 2, 0, 512), first);
        byte[] second = Probe.disk(x, 1, 3, 0, 512);
        p.due("the second block is written", second[0], 16);
        p.due("and 0 behind that", Arrays.copyOfRange(second, 8, 512), new byte[504]);
        x.turnTo(1, true);
        p.due("index", x.replicaOf(1, 1), 3);
        p.due("records", x.journalOf(1, 0), 8);
        p.due("bytes", x.journalOf(1, 1), 442);
        p.due("accepted still", x.replicaOf(1, 5), 3);
    }

    static void promise14CrashBehindBothBlocks(Probe p) {
        Cluster x = nearEndOfBlock(p);
        int blocks = x.journalOf(1, 4);
        x.crashAfter(1, 2);
        p.come(x, 5, 0, 1);
        p.due("up", x.replicaOf(1, 0), 1);
        p.due("due", x.journalOf(1, 5), 0);
        p.due("blocks written", x.journalOf(1, 4), blocks + 2);
        p.due("index", x.replicaOf(1, 1), 4);
        x.turnTo(1, false);
        x.turnTo(1, true);
        p.due("index", x.replicaOf(1, 1), 4);
        p.due("bytes", x.journalOf(1, 1), 520);
    }

    /** What a crash left in the next block is not read behind a shorter note, which ends ahead of it. */
    static void promise14NoteBehindACrash(Probe p) {
        Cluster x = nearEndOfBlock(p);
        x.crashAfter(1, 1);
        p.come(x, 5, 0, 1);
        x.turnTo(1, true);
        Probe.lose(x);
        Probe.write(x, 5, 1, 1, 1);
        Probe.tick(x, 1, 3);
        p.due("records", x.journalOf(1, 0), 9);
        p.due("bytes", x.journalOf(1, 1), 450);
        x.turnTo(1, false);
        x.turnTo(1, true);
        p.due("promised", x.replicaOf(1, 4), 4);
        p.due("records", x.journalOf(1, 0), 9);
        p.due("index", x.replicaOf(1, 1), 3);
    }

    // A CHECKPOINT: "ahead of all else": "ROLE, QUIET, PIECES, what is TOLD and sent come behind that"

    /** Replica 1 has so many records, for the accept that is frame 0 came again and again. */
    private static Cluster withRecords(int count) {
        return withRecords(2, 1, count);
    }

    private static Cluster withRecords(int versions, int replica, int count) {
        Cluster x = Probe.led(versions, 1);
        acceptUntil(x, replica, count);
        return x;
    }

    /** Leader 0 proposes, and its accept comes to a replica until that has so many records; both fly still. */
    private static void acceptUntil(Cluster x, int replica, int count) {
        Probe.write(x, 4, 0, 1, 1);
        x.tickOf(0);
        for (int i = x.journalOf(replica, 0); i < count; i++) {
            x.doubleAt(replica - 1);
            x.deliverAt(2);
            x.loseAt(2);
        }
    }

    /** Replica 0 has campaigned so often that nobody heard of. */
    private static Cluster campaigned(int versions, int count) {
        Cluster x = new Cluster(3, versions, 2, 2);
        Probe.write(x, 4, 0, 1, 1);
        for (int i = 0; i < count; i++) {
            Probe.tick(x, 0, 2);
            x.loseAt(0);
            x.loseAt(0);
        }
        return x;
    }

    /** It crashed by the first write of the checkpoint: what was noted is so, and nothing else is done. */
    private static void crashed(Probe p, Cluster x, int replica, int blocks, int flying) {
        p.due("down", x.replicaOf(replica, 0), 0);
        p.due("the note was written", x.journalOf(replica, 4), blocks);
        p.due("frames", x.lookAt(3), flying);
        x.turnTo(replica, true);
        p.due("a checkpoint", x.journalOf(replica, 2), 2);
    }

    static void promise14CrashInCheckpointOfCampaign(Probe p) {
        Cluster x = campaigned(2, 47);
        int blocks = x.journalOf(0, 4);
        x.crashAfter(0, 1);
        Probe.tick(x, 0, 2);
        crashed(p, x, 0, blocks + 1, 0);
        p.due("promised", x.replicaOf(0, 4), 144);
        p.due("follower", x.replicaOf(0, 6), 0);
    }

    static void promise14CrashInCheckpointOfPrepare(Probe p) {
        Cluster x = withRecords(47);
        Probe.write(x, 5, 2, 1, 1);
        Probe.tick(x, 2, 4);
        int blocks = x.journalOf(1, 4);
        int flying = x.lookAt(3);
        x.crashAfter(1, 1);
        p.come(x, 1, 2, 1);
        crashed(p, x, 1, blocks + 1, flying - 1);
        p.due("promised", x.replicaOf(1, 4), 5);
    }

    static void promise14CrashInCheckpointOfAccept(Probe p) {
        Cluster x = withRecords(47);
        int blocks = x.journalOf(1, 4);
        x.crashAfter(1, 1);
        p.come(x, 3, 0, 1);
        crashed(p, x, 1, blocks + 1, 1);
        p.due("accepted", x.replicaOf(1, 5), 3);
    }

    static void promise14CrashInCheckpointOfProposal(Probe p) {
        Cluster x = campaigned(2, 46);
        Probe.tick(x, 0, 2);
        p.come(x, 1, 0, 1);
        int blocks = x.journalOf(0, 4);
        p.due("records", x.journalOf(0, 0), 47);
        x.crashAfter(0, 1);
        p.come(x, 2, 1, 0);
        crashed(p, x, 0, blocks + 1, 1);
        p.due("accepted", x.replicaOf(0, 5), 141);
        p.due("follower", x.replicaOf(0, 6), 0);
    }

    static void promise14CrashInCheckpointOfLearning(Probe p) {
        Cluster x = homeThatCrashedByLearning(p);
        x.turnTo(1, true);
        p.due("a checkpoint", x.journalOf(1, 2), 2);
        p.due("index", x.replicaOf(1, 1), 2);
        p.due("not told", x.sessionOf(4, 0), 2);
        p.due("nothing is accepted", x.replicaOf(1, 5), NONE);
    }

    /** A leader that learns: it tells nobody, and does not propose the next one. */
    static void promise14CrashInCheckpointOfLeader(Probe p) {
        Cluster x = campaigned(2, 45);
        Probe.write(x, 5, 0, 2, 2);
        Probe.tick(x, 0, 2);
        p.come(x, 1, 0, 1);
        p.come(x, 2, 1, 0);
        p.come(x, 3, 0, 1);
        p.due("records", x.journalOf(0, 0), 47);
        int blocks = x.journalOf(0, 4);
        x.crashAfter(0, 1);
        p.come(x, 4, 1, 0);
        p.message("chosen is the last that was sent", x, Probe.last(x), 5, 0, 2, 0, 1, 4);
        p.due("nobody is told", x.sessionOf(4, 0), 2);
        crashed(p, x, 0, blocks + 1, 4);
        p.due("learnt", x.replicaOf(0, 1), 1);
        p.due("nothing is accepted", x.replicaOf(0, 5), NONE);
    }

    /** The note of the state lies in two blocks. */
    static void promise14CrashInCheckpointOfState(Probe p) {
        Cluster x = stateFlies(p);
        x.deliverAt(0);
        int blocks = x.journalOf(2, 4);
        x.crashAfter(2, 2);
        x.deliverAt(0);
        crashed(p, x, 2, blocks + 2, 0);
        p.due("index and horizon", x.replicaOf(2, 1) * 10 + x.replicaOf(2, 2), 33);
        p.due("no pieces", x.replicaOf(2, 13), NONE);
    }

    /** Replica 2 has 47 records and has accepted for slot 2; both pieces of the state of 3 fly to it. */
    private static Cluster stateFlies(Probe p) {
        Cluster x = withRecords(2, 2, 47);
        p.due("records", x.journalOf(2, 0), 47);
        p.come(x, 3, 0, 1);
        p.come(x, 4, 1, 0);
        p.come(x, 5, 0, 1);
        Probe.lose(x);
        Probe.decideBehind(x);
        Probe.tick(x, 2, 2);
        p.come(x, 6, 2, 0);
        p.due("two pieces", x.lookAt(3), 2);
        return x;
    }

    /** "the blocks that these lie in are WRITTEN, the first one first .. then the block" of the head. */
    static void promise14CrashInCheckpointOfTwoBlocks(Probe p) {
        for (int n = 1; n < 5; n++) {
            Cluster x = checkpointOfTwoBlocks();
            int blocks = x.journalOf(1, 4);
            x.crashAfter(1, n);
            x.deliverAt(0);
            p.due("up with " + n, x.replicaOf(1, 0), n < 4 ? 0 : 1);
            p.due("written with " + n, x.journalOf(1, 4), blocks + n);
            p.due("the first block with " + n, x.blockOf(1, 33, 0) != 0, n > 1);
            p.due("the second block with " + n, x.blockOf(1, 34, 16) != 0, n > 2);
            p.due("the head with " + n, x.blockOf(1, 0, 0) != 0, n > 3);
            x.turnTo(1, false);
            x.turnTo(1, true);
            p.due("generation with " + n, x.journalOf(1, 2), 2);
            p.due("index with " + n, x.replicaOf(1, 1), 7);
            p.due("horizon with " + n, x.replicaOf(1, 2), 0);
            p.due("accepted with " + n, x.replicaOf(1, 5), 3);
        }
    }

    /** Replica 1 has 47 records, and values of 7 indices below its own; byte 640 is that of what it accepted. */
    private static Cluster checkpointOfTwoBlocks() {
        Cluster x = Probe.led(16, 1);
        for (int i = 0; i < 6; i++) {
            Probe.decide(x, 5, 5, i);
        }
        acceptUntil(x, 1, 47);
        return x;
    }

    // Promise 16: "(0 to 3: NONE if it is DOWN) .. (NONE without one). NONE if there is no such REPLICA, or
    // what."

    static void promise16NoSuchReplica(Probe p) {
        Cluster x = Probe.led(2, 2);
        for (int replica : NO_REPLICAS) {
            for (int what = 0; what < 6; what++) {
                p.due("replica " + replica + ", what " + what, x.journalOf(replica, what), NONE);
            }
        }
    }

    static void promise16NoSuchWhat(Probe p) {
        Cluster x = Probe.led(2, 2);
        for (int what : new int[] {-1, 6, 7, LEAST, MOST}) {
            p.due("what " + what, x.journalOf(1, what), NONE);
        }
        x.turnTo(1, false);
        for (int what : new int[] {-1, 6, 7, LEAST, MOST}) {
            p.due("what " + what + " of one that is down", x.journalOf(1, what), NONE);
        }
    }

    static void promise16Down(Probe p) {
        Cluster x = Probe.led(2, 2);
        x.crashAfter(1, 6);
        int[] up = {3, 46, 1, 0, 3, 6};
        int[] down = {NONE, NONE, NONE, NONE, 3, 6};
        for (int what = 0; what < 6; what++) {
            p.due("up, what " + what, x.journalOf(1, what), up[what]);
        }
        x.turnTo(1, false);
        for (int what = 0; what < 6; what++) {
            p.due("down, what " + what, x.journalOf(1, what), down[what]);
        }
    }

    static void promise16AtFirst(Probe p) {
        Cluster x = new Cluster(9, 1, 1, 2);
        int[] wanted = {0, 0, 1, 0, 0, NONE};
        for (int what = 0; what < 6; what++) {
            p.due("what " + what, x.journalOf(8, what), wanted[what]);
        }
    }

    /** "and a byte 0 if LENGTH is odd": 1 and 126 are 8 bytes in all, 1 and 129 are 10. */
    static void promise16LengthIsOdd(Probe p) {
        Cluster x = campaigned(2, 42);
        p.due("promised", x.replicaOf(0, 4), 126);
        p.due("bytes", x.journalOf(0, 1), 42 * 8);
        Probe.tick(x, 0, 2);
        p.due("promised", x.replicaOf(0, 4), 129);
        p.due("bytes", x.journalOf(0, 1), 42 * 8 + 10);
        byte[] wanted = Probe.join(Probe.inRecord(Probe.bytes(1, 126)), Probe.inRecord(Probe.bytes(1, 129, 1)));
        p.due("the records", Probe.disk(x, 0, 2, 41 * 8, 18), wanted);
        Probe.tick(x, 0, 2);
        x.turnTo(0, false);
        x.turnTo(0, true);
        p.due("read again", x.replicaOf(0, 4) * 100 + x.journalOf(0, 0), 132 * 100 + 44);
    }

    // To NOTE: "two bytes 0 behind it .. the blocks that these lie in are WRITTEN"

    /** Replica 2 has 502 bytes; the next note of 8 bytes leaves room for two in the block. */
    static void promise16NoteEndsTwoBytesAheadOfItsBlock(Probe p) {
        Cluster x = withRecords(2, 2, 23);
        p.due("bytes", x.journalOf(2, 1), 446);
        Probe.lose(x);
        Probe.write(x, 5, 2, 1, 1);
        Probe.tick(x, 2, 4);
        Probe.tick(x, 2, 2 * 6);
        p.due("bytes", x.journalOf(2, 1), 502);
        int blocks = x.journalOf(2, 4);
        Probe.tick(x, 2, 2);
        p.due("bytes", x.journalOf(2, 1), 510);
        p.due("one block", x.journalOf(2, 4), blocks + 1);
        Probe.tick(x, 2, 2);
        p.due("bytes", x.journalOf(2, 1), 518);
        p.due("two blocks", x.journalOf(2, 4), blocks + 3);
        x.turnTo(2, false);
        x.turnTo(2, true);
        p.due("bytes", x.journalOf(2, 1), 518);
        p.due("promised", x.replicaOf(2, 4), 5 + 3 * 8);
    }

    /** Replica 1 has 468 bytes, and accepts of 44 bytes fly to it. */
    private static Cluster nearFullBlock(Probe p) {
        Cluster x = Probe.led(2, 2);
        propose(x, 16);
        Probe.deliver(x);
        propose(x, 7);
        for (int i = 0; i < 6; i++) {
            x.doubleAt(0);
            x.deliverAt(2);
            x.loseAt(2);
        }
        p.due("bytes", x.journalOf(1, 1), 468);
        return x;
    }

    static void promise16NoteEndsWithItsBlock(Probe p) {
        Cluster x = nearFullBlock(p);
        int blocks = x.journalOf(1, 4);
        x.doubleAt(0);
        x.deliverAt(2);
        p.due("bytes", x.journalOf(1, 1), 512);
        p.due("two blocks", x.journalOf(1, 4), blocks + 2);
        p.due("the next block", Probe.disk(x, 1, 3, 0, 512), new byte[512]);
        x.deliverAt(0);
        p.due("bytes", x.journalOf(1, 1), 556);
        p.due("one block", x.journalOf(1, 4), blocks + 3);
        p.due("in the next block", Probe.disk(x, 1, 3, 0, 4), Probe.bytes(38, 0, 2, 3));
        x.turnTo(1, false);
        x.turnTo(1, true);
        p.due("read again", x.journalOf(1, 1), 556);
    }

    /** "what is in them behind that is 0": a crash left 8 bytes in the next block, and a note takes 2 of it. */
    static void promise16NoteIsZeroBehind(Probe p) {
        Cluster x = nearEndOfBlock(p);
        x.crashAfter(1, 1);
        p.come(x, 5, 0, 1);
        x.turnTo(1, true);
        p.due("4 bytes of the check", (int) x.blockOf(1, 3, 0) != 0, true);
        Probe.write(x, 5, 1, 1, 1);
        Probe.tick(x, 1, 3 + 2 * 7);
        p.due("bytes", x.journalOf(1, 1), 506);
        p.due("it is there still", (int) x.blockOf(1, 3, 0) != 0, true);
        Probe.tick(x, 1, 2);
        p.due("bytes", x.journalOf(1, 1), 514);
        p.due("it is 0", Probe.disk(x, 1, 3, 2, 510), new byte[510]);
    }

    // "if there are 48 RECORDS or more, A CHECKPOINT is made"

    static void promise16FortySevenRecords(Probe p) {
        Cluster x = campaigned(2, 47);
        p.due("records", x.journalOf(0, 0), 47);
        p.due("generation", x.journalOf(0, 2), 1);
        p.due("half", x.journalOf(0, 3), 0);
        p.due("blocks", x.journalOf(0, 4), 47);
    }

    static void promise16FortyEightRecordsByCampaign(Probe p) {
        Cluster x = campaigned(2, 48);
        p.due("records", x.journalOf(0, 0), 2);
        p.due("generation", x.journalOf(0, 2), 2);
        p.due("half", x.journalOf(0, 3), 1);
        p.due("blocks", x.journalOf(0, 4), 48 + 2);
        p.due("candidate", x.replicaOf(0, 6) * 1000 + x.replicaOf(0, 7), 1144);
    }

    static void promise16FortyEightRecordsByPrepare(Probe p) {
        Cluster x = withRecords(47);
        Probe.write(x, 5, 2, 1, 1);
        Probe.tick(x, 2, 4);
        p.come(x, 1, 2, 1);
        p.due("records", x.journalOf(1, 0), 4);
        p.due("generation", x.journalOf(1, 2), 2);
        p.message("promise", x, Probe.last(x), 2, 1, 2, 5, 2, 4, 3);
    }

    static void promise16FortyEightRecordsByAccept(Probe p) {
        Cluster x = withRecords(47);
        p.come(x, 3, 0, 1);
        p.due("records", x.journalOf(1, 0), 4);
        p.due("generation", x.journalOf(1, 2), 2);
        p.message("accepted", x, Probe.last(x), 4, 1, 0, 3, 2);
        p.due("accepted", x.replicaOf(1, 5), 3);
    }

    static void promise16FortyEightRecordsByProposal(Probe p) {
        Cluster x = campaigned(2, 46);
        Probe.tick(x, 0, 2);
        p.come(x, 1, 0, 1);
        p.come(x, 2, 1, 0);
        p.due("records", x.journalOf(0, 0), 3);
        p.due("generation", x.journalOf(0, 2), 2);
        p.due("leads", x.replicaOf(0, 6) * 10 + x.replicaOf(0, 11), 24);
        p.message("accept", x, Probe.last(x), 3, 0, 2, 141, 1, 4);
    }

    static void promise16FortyEightRecordsByLearning(Probe p) {
        Cluster x = withRecords(47);
        p.come(x, 3, 0, 2);
        p.come(x, 4, 2, 0);
        p.come(x, 5, 0, 1);
        p.due("a state, values at 1 and 0, what is promised", x.journalOf(1, 0), 4);
        p.due("generation", x.journalOf(1, 2), 2);
        p.due("index", x.replicaOf(1, 1), 2);
        p.due("kept still", x.slotOf(1, 2, 0), 4);
    }

    /** Behind a state the horizon is its index: no values of older ones, and nothing is accepted. */
    static void promise16FortyEightRecordsByState(Probe p) {
        Cluster x = stateFlies(p);
        x.deliverAt(0);
        x.deliverAt(0);
        p.due("a state, what is promised", x.journalOf(2, 0), 2);
        p.due("generation", x.journalOf(2, 2), 2);
        p.due("index and horizon", x.replicaOf(2, 1) * 10 + x.replicaOf(2, 2), 33);
        p.due("no pieces", x.replicaOf(2, 13), NONE);
        p.due("nothing is accepted", x.replicaOf(2, 5), NONE);
        x.turnTo(2, false);
        x.turnTo(2, true);
        p.due("index and horizon", x.replicaOf(2, 1) * 10 + x.replicaOf(2, 2), 33);
    }

    /** "for each INDEX below that, down to HORIZON": none at index 0, 2 with V 2. */
    static void promise16CheckpointWithoutOlderValues(Probe p) {
        Cluster x = campaigned(3, 48);
        byte[] state = Probe.inRecord(Probe.join(Probe.bytes(4), new byte[1 + 64 + 32 + 6]));
        byte[] wanted = Probe.join(state, Probe.inRecord(Probe.bytes(1, 144, 1)));
        p.due("bytes", x.journalOf(0, 1), wanted.length);
        p.due("the other half", Probe.disk(x, 0, 33, 0, 512), Arrays.copyOf(wanted, 512));
    }

    static void promise16CheckpointWithOlderValues(Probe p) {
        for (int versions : new int[] {1, 2, 4}) {
            Cluster x = Probe.led(versions, 1);
            for (int i = 0; i < 4; i++) {
                Probe.decide(x, 5, 5, i);
            }
            acceptUntil(x, 1, 48);
            p.due("records with V " + versions, x.journalOf(1, 0), 3 + versions);
            p.due("bytes with V " + versions, x.journalOf(1, 1), 104 + 2 * versions + 72 * versions + 20 + 8);
        }
    }

    /** The state, the values of each older index, the later one first, what is accepted, what is promised. */
    static void promise16CheckpointInItsOrder(Probe p) {
        Cluster x = Probe.led(2, 1);
        Probe.decide(x, 0, 0, 10);
        Probe.decide(x, 0, 1, 20);
        acceptUntil(x, 1, 48);
        byte[] values = new byte[64];
        values[63] = 1;
        byte[] older = Probe.inRecord(Probe.join(Probe.bytes(5), values));
        values[3] = 10;
        byte[] later = Probe.inRecord(Probe.join(Probe.bytes(5), values));
        values[7] = 20;
        byte[] known = new byte[32];
        known[0] = 2;
        known[1] = 1;
        known[30] = 1;
        known[31] = 1;
        byte[] state = Probe.inRecord(Probe.join(Probe.bytes(4, 3), values, known, Probe.bytes(0, 2, 0, 1)));
        byte[] accepted = Probe.inRecord(Probe.bytes(2, 3, 4, 4, 1, 3, 0, 0, 0, 2, 0, 0, 0, 1));
        byte[] all = Probe.join(state, later, older, accepted, Probe.inRecord(Probe.bytes(1, 3)));
        p.due("bytes", x.journalOf(1, 1), all.length);
        p.due("the other half", Probe.disk(x, 1, 33, 0, 512), Arrays.copyOf(all, 512));
    }

    /** "and two bytes 0 behind them": where the records take 512 bytes these have a block of their own. */
    static void promise16CheckpointEndsWithItsBlock(Probe p) {
        checkpointEnds(p, 10, 512, 2);
    }

    static void promise16CheckpointEndsTwoBytesAheadOfItsBlock(Probe p) {
        checkpointEnds(p, 9, 510, 1);
    }

    private static void checkpointEnds(Probe p, int versions, int bytes, int blocks) {
        Cluster x = Probe.led(versions, 2);
        for (int i = 0; i < 4; i++) {
            Probe.decide(x, 5, 5, i);
        }
        acceptUntil(x, 1, 47);
        int before = x.journalOf(1, 4);
        x.deliverAt(0);
        p.due("bytes", x.journalOf(1, 1), bytes);
        p.due("a note, the blocks, the head", x.journalOf(1, 4), before + 1 + blocks + 1);
        x.turnTo(1, false);
        x.turnTo(1, true);
        p.due("read again", x.journalOf(1, 1), bytes);
    }

    /** "then the block GENERATION + 1 modulo 2, with the HEAD of GENERATION + 1 and that HALF" */
    static void promise16SecondGeneration(Probe p) {
        Cluster x = campaigned(1, 48);
        p.due("generation and half", x.journalOf(0, 2) * 10 + x.journalOf(0, 3), 21);
        p.due("block 0", Probe.disk(x, 0, 0, 0, 512), Arrays.copyOf(Probe.head(2, 1), 512));
        p.due("block 1", Probe.disk(x, 0, 1, 0, 12), Probe.head(1, 0));
        x.turnTo(0, false);
        x.turnTo(0, true);
        p.due("the greater one counts", x.journalOf(0, 2) * 10 + x.journalOf(0, 3), 21);
    }

    /** The first half again: 48 records, a checkpoint of 2, and 46 more. */
    static void promise16ThirdGeneration(Probe p) {
        Cluster x = campaigned(1, 93);
        p.due("records", x.journalOf(0, 0), 47);
        p.due("generation and half", x.journalOf(0, 2) * 10 + x.journalOf(0, 3), 21);
        Probe.tick(x, 0, 2);
        p.due("records", x.journalOf(0, 0), 2);
        p.due("generation and half", x.journalOf(0, 2) * 10 + x.journalOf(0, 3), 30);
        p.due("block 0", Probe.disk(x, 0, 0, 0, 12), Probe.head(2, 1));
        p.due("block 1", Probe.disk(x, 0, 1, 0, 12), Probe.head(3, 0));
        x.turnTo(0, false);
        x.turnTo(0, true);
        p.due("the greater one counts", x.journalOf(0, 2) * 10 + x.journalOf(0, 3), 30);
        p.due("promised", x.replicaOf(0, 4), 282);
        p.due("records", x.journalOf(0, 0), 2);
    }

    /** The half is written and the head is not: that of the older generation counts. */
    static void promise16HeadIsNotWritten(Probe p) {
        Cluster x = campaigned(1, 47);
        x.crashAfter(0, 2);
        Probe.tick(x, 0, 2);
        p.due("the other half", x.blockOf(0, 33, 0) != 0, true);
        p.due("block 0", x.blockOf(0, 0, 0), 0);
        x.turnTo(0, true);
        p.due("promised", x.replicaOf(0, 4), 144);
        p.due("generation and half", x.journalOf(0, 2) * 10 + x.journalOf(0, 3), 21);
        p.due("the note, the half, the half and the head again", x.journalOf(0, 4), 47 + 2 + 2);
    }

    /** "4: blocks WRITTEN in all": not one in whose place a crash came, nor the first head. */
    static void promise16BlocksWritten(Probe p) {
        Cluster x = new Cluster(3, 1, 1, 2);
        p.due("at first", x.journalOf(0, 4), 0);
        Probe.write(x, 4, 0, 1, 1);
        Probe.tick(x, 0, 2);
        p.due("a note", x.journalOf(0, 4), 1);
        x.crashAfter(0, 0);
        Probe.tick(x, 0, 2);
        p.due("a crash", x.journalOf(0, 4), 1);
    }

    // Promise 17: "Bytes 8 * k .. 8 * k + 7 of block b of a REPLICA's disk, the first one highest; 0 if there
    // is none such."

    static void promise17NoSuchReplica(Probe p) {
        Cluster x = Probe.led(2, 2);
        for (int replica : NO_REPLICAS) {
            p.due("replica " + replica, x.blockOf(replica, 1, 0), 0);
        }
    }

    static void promise17NoSuchBlock(Probe p) {
        Cluster x = Probe.led(2, 2);
        for (int b : new int[] {-1, 64, 65, LEAST, MOST}) {
            p.due("block " + b, x.blockOf(0, b, 0), 0);
        }
        p.due("block 0 has no words of block 1", x.blockOf(0, 0, 64), 0);
    }

    /** Blocks 1 and 2 have bytes at their beginnings, which are no words of the blocks beside them. */
    static void promise17NoSuchWord(Probe p) {
        Cluster x = Probe.led(2, 2);
        for (int k : new int[] {-1, 64, 65, -64, 1 << 29, LEAST, MOST}) {
            for (int b = 0; b < 4; b++) {
                p.due("word " + k + " of block " + b, x.blockOf(0, b, k), 0);
            }
        }
    }

    static void promise17FirstAndLastWord(Probe p) {
        Cluster x = nearFullBlock(p);
        x.deliverAt(0);
        p.due("the first word of block 1", x.blockOf(1, 1, 0), 0x4A31000001000000L);
        byte[] end = Probe.disk(x, 1, 2, 468, 44);
        p.due("the record", end, Probe.inRecord(Arrays.copyOfRange(end, 2, 40)));
        p.due("its last bytes are those of the block", x.blockOf(1, 2, 63) != 0, true);
        p.due("the first word of the last block", x.blockOf(1, 63, 0), 0);
        p.due("the last word of the last block", x.blockOf(1, 63, 63), 0);
    }

    static void promise17Down(Probe p) {
        Cluster x = Probe.led(2, 2);
        long first = x.blockOf(1, 2, 0);
        x.turnTo(1, false);
        p.due("down", x.blockOf(1, 2, 0), first);
        p.due("it is not 0", first != 0, true);
    }

    /** The least number of replicas has the same disk as the greatest. */
    static void promise17LastReplica(Probe p) {
        for (int replicas : new int[] {3, 9}) {
            Cluster x = new Cluster(replicas, 1, 1, 2);
            p.due("head", Probe.disk(x, replicas - 1, 1, 0, 12), Probe.head(1, 0));
            p.due("none behind it", x.blockOf(replicas, 1, 0), 0);
        }
    }
}
