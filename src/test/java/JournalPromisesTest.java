import java.util.Arrays;

/** Promises 13, 14, 16 and 17: going down and coming up, crashes, and what is on the disk. */
public final class JournalPromisesTest {

    private static final Probe P = new Probe();
    private static final int NONE = SnapCluster.NONE;

    public static void main(String[] args) {
        promise13();
        promise13ReadsAgain();
        promise13ReadsAllVersions();
        promise13ReadsWhatWasWritten();
        promise14();
        promise16();
        promise17();
        notesLieBehindOneAnother();
        for (int n = 0; n < 3; n++) {
            noteOverTwoBlocks(n);
        }
        noteThatFillsItsBlock();
        checkpoint();
        checkpointWithAllRecords();
        for (int n = 0; n < 4; n++) {
            crashInCheckpoint(n);
        }
        crashedLearningIsKept();
        checkpointBackToFirstHalf();
        checkpointAtTheEndOfItsBlock(10, 512, 2);
        checkpointAtTheEndOfItsBlock(9, 510, 1);
        crashInCheckpointOfLeader();
        P.end("JournalPromisesTest");
    }

    private static void promise13() {
        Cluster x = Probe.led(2, 2);
        P.due("13: replica -1", x.turnTo(-1, false), false);
        P.due("13: replica 3", x.turnTo(3, true), false);
        P.due("13: it is up", x.turnTo(0, true), false);
        x.beginAt(0, 1, false);
        x.beginAt(1, 0, false);
        Probe.write(x, 2, 1, 2, 2);
        x.crashAfter(1, 7);
        P.due("13: goes down", x.turnTo(1, false), true);
        P.due("13: it is down", x.turnTo(1, false), false);
        P.due("13: an active one is aborted", x.sessionOf(0, 0), 4);
        P.due("13: and has no home", x.sessionOf(0, 2), NONE);
        P.due("13: one of another home is not", x.sessionOf(1, 0), 1);
        P.due("13: a waiting one waits", x.sessionOf(2, 0), 2);
        P.due("13: with its home", x.sessionOf(2, 2), 1);
        P.due("13: the crash stays due", x.journalOf(1, 5), 7);
        P.due("13: comes up", x.turnTo(1, true), true);
        P.due("13: no crash is due", x.journalOf(1, 5), NONE);
        P.due("13: nobody waits there", x.replicaOf(1, 10), 0);
        P.due("13: the session waits on", x.sessionOf(2, 0), 2);
    }

    private static void promise13ReadsAgain() {
        Cluster x = Probe.led(2, 3);
        for (int i = 0; i < 5; i++) {
            Probe.decide(x, i, i, 10 + i);
        }
        Probe.write(x, 6, 0, 9, 9);
        Probe.tick(x, 0, 1);
        int[] before = new int[15];
        for (int what = 0; what < 15; what++) {
            before[what] = x.replicaOf(0, what);
        }
        int bytes = x.journalOf(0, 1);
        int records = x.journalOf(0, 0);
        int written = x.journalOf(0, 4);
        x.turnTo(0, false);
        x.turnTo(0, true);
        for (int what = 0; what < 6; what++) {
            P.due("13: replicaOf " + what + " is read again", x.replicaOf(0, what), before[what]);
        }
        int[] rest = {0, 0, 0, 3, 0, NONE, 0, NONE, 0};
        for (int what = 6; what < 15; what++) {
            P.due("13: replicaOf " + what + " is as at first", x.replicaOf(0, what), rest[what - 6]);
        }
        P.due("13: accepted", x.replicaOf(0, 5), 3);
        P.due("13: records", x.journalOf(0, 0), records);
        P.due("13: bytes", x.journalOf(0, 1), bytes);
        P.due("13: nothing is written by that", x.journalOf(0, 4), written);
        P.due("13: value", x.valueAt(0, 4, 6), 14);
        P.due("13: an older value", x.valueAt(0, 4, 5), 0);
        P.due("13: the oldest one", x.valueAt(0, 3, 4), 0);
        P.due("13: below that", Probe.valueThrows(x, 0, 3, 3), true);
        P.due("13: kept", x.slotOf(0, 4, 0) * 10 + x.slotOf(0, 3, 0), 19);
        P.due("13: known", x.knownOf(0, 4, true), 1);
    }

    private static void promise13ReadsAllVersions() {
        Cluster x = Probe.led(16, 32);
        for (int i = 2; i < 20; i++) {
            Probe.decide(x, 0, i == 17 ? 3 : 4, i);
        }
        x.turnTo(1, false);
        x.turnTo(1, true);
        P.due("13: index", x.replicaOf(1, 1), 19);
        P.due("13: horizon", x.replicaOf(1, 2), 3);
        for (int i = 3; i < 20; i++) {
            P.due("13: key 3 at " + i, x.valueAt(1, 3, i), i < 17 ? 0 : 17);
            P.due("13: key 4 at " + i, x.valueAt(1, 4, i), i == 17 ? 16 : i);
        }
        P.due("13: base", x.replicaOf(1, 3), 0);
        P.due("13: slot 1", x.slotOf(1, 1, 0), 15);
    }

    private static void promise13ReadsWhatWasWritten() {
        Cluster x = Probe.led(8, 1);
        Probe.decideBehind(x);
        Probe.decideBehind(x);
        x.turnTo(0, false);
        x.turnTo(0, true);
        Probe.tick(x, 2, 2);
        x.deliverAt(0);
        byte[] last = Probe.frame(x, 1);
        byte[] written = Probe.bytes(0, 128, 0, 128, 128, 0, 0, 0, 0, 0, 0, 0, 0, 0, 0, 0);
        P.due("13: the last piece", x.messageOf(1, 9), 1);
        P.due("13: written", Arrays.copyOfRange(last, last.length - 20, last.length - 4), written);
    }

    private static void promise14() {
        Cluster x = new Cluster(3, 1, 1, 2);
        P.due("14: replica -1", x.crashAfter(-1, 0), false);
        P.due("14: replica 3", x.crashAfter(3, 0), false);
        P.due("14: above 1000", x.crashAfter(0, 1001), false);
        P.due("14: far above", x.crashAfter(0, Integer.MAX_VALUE), false);
        P.due("14: none is due", x.journalOf(0, 5), NONE);
        P.due("14: 1000", x.crashAfter(0, 1000), true);
        P.due("14: it is due", x.journalOf(0, 5), 1000);
        P.due("14: another in its place", x.crashAfter(0, 2), true);
        P.due("14: a wrong one", x.crashAfter(0, 1001), false);
        P.due("14: changes nothing", x.journalOf(0, 5), 2);
        P.due("14: none", x.crashAfter(0, Integer.MIN_VALUE), true);
        P.due("14: none is due", x.journalOf(0, 5), NONE);
        x.turnTo(1, false);
        P.due("14: one that is down", x.crashAfter(1, 0), false);
        Probe.write(x, 0, 0, 1, 1);
        x.beginAt(1, 0, false);
        x.crashAfter(0, 1);
        Probe.tick(x, 0, 2);
        P.due("14: one write less", x.journalOf(0, 5), 0);
        P.due("14: it is up", x.replicaOf(0, 0), 1);
        Probe.tick(x, 0, 1);
        int flying = x.lookAt(3);
        P.due("14: crashes", x.tickOf(0), flying);
        P.due("14: it is down", x.replicaOf(0, 0), 0);
        P.due("14: none is due any more", x.journalOf(0, 5), NONE);
        P.due("14: the block is not written", x.journalOf(0, 4), 1);
        P.due("14: the active one is aborted", x.sessionOf(1, 0), 4);
        x.turnTo(0, true);
        P.due("14: the first ballot is promised", x.replicaOf(0, 4), 3);
    }

    private static void promise16() {
        Cluster x = Probe.led(2, 2);
        P.due("16: replica -1", x.journalOf(-1, 0), NONE);
        P.due("16: replica 3", x.journalOf(3, 0), NONE);
        P.due("16: what -1", x.journalOf(0, -1), NONE);
        P.due("16: what 6", x.journalOf(0, 6), NONE);
        P.due("16: records", x.journalOf(0, 0), 3);
        P.due("16: bytes", x.journalOf(0, 1), 8 + 20 + 18);
        P.due("16: generation", x.journalOf(0, 2), 1);
        P.due("16: half", x.journalOf(0, 3), 0);
        P.due("16: blocks written", x.journalOf(0, 4), 3);
        P.due("16: crash", x.journalOf(0, 5), NONE);
        x.crashAfter(0, 5);
        x.turnTo(0, false);
        for (int what = -1; what < 4; what++) {
            P.due("16: one that is down, what " + what, x.journalOf(0, what), NONE);
        }
        P.due("16: one that is down has written", x.journalOf(0, 4), 3);
        P.due("16: one that is down, crash", x.journalOf(0, 5), 5);
    }

    private static void promise17() {
        Cluster x = new Cluster(3, 1, 1, 2);
        P.due("17: the first word", x.blockOf(2, 1, 0), 0x4A31000001000000L);
        P.due("17: replica -1", x.blockOf(-1, 1, 0), 0);
        P.due("17: replica 3", x.blockOf(3, 1, 0), 0);
        P.due("17: block -1", x.blockOf(0, -1, 0), 0);
        P.due("17: block 64", x.blockOf(0, 64, 0), 0);
        P.due("17: word -1", x.blockOf(0, 2, -1), 0);
        P.due("17: word 64 of block 0", x.blockOf(0, 0, 64), 0);
        P.due("17: word -64 of block 2", x.blockOf(0, 2, -64), 0);
        x.turnTo(2, false);
        P.due("17: of one that is down", x.blockOf(2, 1, 0), 0x4A31000001000000L);
    }

    private static void notesLieBehindOneAnother() {
        Cluster x = Probe.led(2, 2);
        byte[] request = Probe.bytes(15, 1, 0, 0, 0, 128, 0, 0, 0, 0, 1);
        byte[] promised = Probe.inRecord(Probe.bytes(1, 3));
        byte[] accepted = Probe.inRecord(Probe.join(Probe.bytes(2, 3, 1), request));
        byte[] learnt = Probe.inRecord(Probe.join(Probe.bytes(3), request));
        byte[] all = Probe.join(promised, accepted, learnt);
        P.due("16: records of the leader", Probe.disk(x, 0, 2, 0, 512), Arrays.copyOf(all, 512));
        P.due("16: records of a follower", Probe.disk(x, 1, 2, 0, 512), Arrays.copyOf(all, 512));
        P.due("16: the next block", Probe.disk(x, 0, 3, 0, 512), new byte[512]);
    }

    /** Has replica 0 propose a request that writes some keys: 16 bytes and 4 for each key to accept it. */
    private static void propose(Cluster x, int keys) {
        x.beginAt(0, 0, false);
        for (int key = 0; key < keys; key++) {
            x.writeKey(0, key, 0x01010101 * (key + 1));
        }
        x.commitIt(0);
        x.tickOf(0);
    }

    /** Replica 1 has 442 bytes, and the frame that has it learn a request of 16 keys is number 1. */
    private static Cluster nearEndOfBlock() {
        Cluster x = Probe.led(2, 2);
        for (int i = 0; i < 2; i++) {
            propose(x, 16);
            Probe.deliver(x);
        }
        propose(x, 16);
        x.deliverAt(0);
        x.deliverAt(1);
        P.due("14: chosen is due to 1", x.messageOf(1, 0) * 10 + x.messageOf(1, 2), 51);
        P.due("14: bytes ahead", x.journalOf(1, 1), 46 + 3 * 80 + 2 * 78);
        P.due("14: blocks ahead", x.journalOf(1, 4), 3 + 5);
        return x;
    }

    /** The learning of the third request takes bytes 442 .. 520: the second block is written first. */
    private static void noteOverTwoBlocks(int n) {
        Cluster x = nearEndOfBlock();
        byte[] first = Probe.disk(x, 1, 2, 0, 512);
        x.crashAfter(1, n);
        x.deliverAt(1);
        P.due("14: up with " + n, x.replicaOf(1, 0), n < 2 ? 0 : 1);
        P.due("14: written with " + n, x.journalOf(1, 4), 8 + n);
        byte[] next = Probe.disk(x, 1, 3, 0, 512);
        P.due("14: the second block with " + n, next[0] != 0, n > 0);
        P.due("14: behind it is 0, with " + n, Arrays.copyOfRange(next, 8, 512), new byte[504]);
        P.due("14: the first block with " + n, Arrays.equals(first, Probe.disk(x, 1, 2, 0, 512)), n < 2);
        x.turnTo(1, false);
        x.turnTo(1, true);
        P.due("14: index with " + n, x.replicaOf(1, 1), n < 2 ? 3 : 4);
        P.due("14: accepted with " + n, x.replicaOf(1, 5), n < 2 ? 3 : NONE);
        P.due("14: records with " + n, x.journalOf(1, 0), n < 2 ? 8 : 9);
        P.due("14: bytes with " + n, x.journalOf(1, 1), n < 2 ? 442 : 520);
        Probe.write(x, 5, 1, 1, 1);
        Probe.lose(x);
        Probe.tick(x, 1, 3);
        P.due("14: the next note lies behind that", x.journalOf(1, 1), n < 2 ? 450 : 528);
        x.turnTo(1, false);
        x.turnTo(1, true);
        P.due("14: and is read", x.replicaOf(1, 4), 4);
        P.due("14: what lies behind is not", x.replicaOf(1, 1), n < 2 ? 3 : 4);
    }

    /** Replica 1 has 512 - 44 bytes, and the last frame has it accept a request of 7 keys once more. */
    private static Cluster nearFullBlock() {
        Cluster x = Probe.led(2, 2);
        propose(x, 16);
        Probe.deliver(x);
        propose(x, 7);
        for (int i = 0; i < 6; i++) {
            x.doubleAt(0);
            x.deliverAt(2);
            Probe.lose(x, 2);
        }
        x.doubleAt(0);
        P.due("16: bytes ahead", x.journalOf(1, 1), 468);
        P.due("16: blocks ahead", x.journalOf(1, 4), 3 + 2 + 6);
        return x;
    }

    /** A record that ends with its block has the zeros in the next one, which is written too. */
    private static void noteThatFillsItsBlock() {
        Cluster x = nearFullBlock();
        x.deliverAt(2);
        P.due("16: a full block", x.journalOf(1, 1), 512);
        P.due("16: two blocks for that", x.journalOf(1, 4), 11 + 2);
        P.due("16: zeros behind it", Probe.disk(x, 1, 3, 0, 512), new byte[512]);
        x.deliverAt(0);
        P.due("16: the next note", x.journalOf(1, 1), 556);
        P.due("16: one block for that", x.journalOf(1, 4), 14);
        P.due("16: in the next block", Probe.disk(x, 1, 3, 0, 2), Probe.bytes(38, 0));
        Cluster y = nearFullBlock();
        y.crashAfter(1, 1);
        y.deliverAt(2);
        P.due("14: the zeros were written alone", y.journalOf(1, 4), 12);
        y.turnTo(1, true);
        P.due("14: the record is not there", y.journalOf(1, 1), 468);
    }

    /** Replica 0 campaigns until its journal has so many records; nothing of it comes. */
    private static Cluster campaigned(int versions, int records) {
        Cluster x = new Cluster(3, versions, 2, 2);
        Probe.write(x, 0, 0, 1, 1);
        for (int i = 0; i < records; i++) {
            Probe.tick(x, 0, 2);
        }
        return x;
    }

    private static byte[] emptyState(int versions) {
        return new byte[1 + 64 + 32 + 2 * versions];
    }

    private static void checkpoint() {
        Cluster x = campaigned(3, 47);
        P.due("16: records", x.journalOf(0, 0), 47);
        P.due("16: generation", x.journalOf(0, 2), 1);
        int used = x.journalOf(0, 1);
        Probe.tick(x, 0, 2);
        P.due("16: two records", x.journalOf(0, 0), 2);
        byte[] state = Probe.inRecord(Probe.join(Probe.bytes(4), emptyState(3)));
        byte[] promised = Probe.inRecord(Probe.bytes(1, 128 + 16, 1));
        P.due("16: bytes", x.journalOf(0, 1), state.length + promised.length);
        P.due("16: generation", x.journalOf(0, 2), 2);
        P.due("16: half", x.journalOf(0, 3), 1);
        P.due("16: blocks written", x.journalOf(0, 4), 48 + 2);
        byte[] wanted = Arrays.copyOf(Probe.join(state, promised), 512);
        P.due("16: the other half", Probe.disk(x, 0, 33, 0, 512), wanted);
        P.due("16: the head", Probe.disk(x, 0, 0, 0, 512), Arrays.copyOf(Probe.head(2, 1), 512));
        P.due("16: the older head", Probe.disk(x, 0, 1, 0, 12), Probe.head(1, 0));
        P.due("16: the last note", Probe.disk(x, 0, 2, used, 10), Probe.inRecord(Probe.bytes(1, 144, 1)));
        P.due("8: it sent behind that", x.messageOf(x.lookAt(3) - 1, 3), 144);
        Probe.tick(x, 0, 2);
        P.due("16: the next note", x.journalOf(0, 0), 3);
        P.due("16: in that half", Probe.disk(x, 0, 33, state.length + 10, 10),
            Probe.inRecord(Probe.bytes(1, 147, 1)));
    }

    private static void checkpointWithAllRecords() {
        Cluster x = Probe.led(2, 2);
        Probe.decide(x, 0, 2, 20);
        Probe.decide(x, 1, 3, 30);
        Probe.write(x, 2, 0, 4, 40);
        x.tickOf(0);
        for (int i = x.journalOf(1, 0); i < 48; i++) {
            x.doubleAt(0);
            x.deliverAt(x.lookAt(3) - 1);
            Probe.lose(x, 2);
        }
        byte[] values = new byte[64];
        values[63] = 1;
        byte[] first = Probe.inRecord(Probe.join(Probe.bytes(5), values));
        values[11] = 20;
        byte[] second = Probe.inRecord(Probe.join(Probe.bytes(5), values));
        values[15] = 30;
        byte[] known = new byte[32];
        for (int s : new int[] {0, 1, 15}) {
            known[2 * s] = 1;
            known[2 * s + 1] = 1;
        }
        byte[] state = Probe.join(Probe.bytes(4, 3), values, known, Probe.bytes(0, 8, 0, 4));
        byte[] request = Probe.bytes(2, 1, 3, 0, 0, 0, 16, 0, 0, 0, 40);
        byte[] accepted = Probe.inRecord(Probe.join(Probe.bytes(2, 3, 4), request));
        byte[] promised = Probe.inRecord(Probe.bytes(1, 3));
        byte[] all = Probe.join(Probe.inRecord(state), second, first, accepted, promised);
        P.due("16: records", x.journalOf(1, 0), 5);
        P.due("16: all of them", Probe.disk(x, 1, 33, 0, 512), Arrays.copyOf(all, 512));
        P.due("16: bytes", x.journalOf(1, 1), all.length);
        P.due("15: base stays", x.replicaOf(1, 3), 1);
        x.turnTo(1, false);
        x.turnTo(1, true);
        P.due("13: index", x.replicaOf(1, 1), 3);
        P.due("13: horizon", x.replicaOf(1, 2), 1);
        P.due("13: base", x.replicaOf(1, 3), 3);
        P.due("13: accepted", x.replicaOf(1, 5), 3);
        P.due("13: value at the horizon", x.valueAt(1, 2, 1) * 100 + x.valueAt(1, 15, 1), 1);
        P.due("13: value behind it", x.valueAt(1, 2, 2) * 100 + x.valueAt(1, 3, 2), 2000);
        P.due("13: value", x.valueAt(1, 2, 3) * 100 + x.valueAt(1, 3, 3), 2030);
        P.due("13: known", x.knownOf(1, 15, true), 1);
        P.due("13: none kept", x.slotOf(1, 3, 0), NONE);
    }

    private static void crashInCheckpoint(int n) {
        Cluster x = campaigned(3, 47);
        x.crashAfter(0, n);
        int flying = x.lookAt(3);
        Probe.tick(x, 0, 2);
        P.due("14: sends nothing with " + n, x.lookAt(3) - flying, n < 3 ? 0 : 2);
        P.due("14: up with " + n, x.replicaOf(0, 0), n < 3 ? 0 : 1);
        P.due("14: due with " + n, x.journalOf(0, 5), n < 3 ? NONE : 0);
        P.due("14: written with " + n, x.journalOf(0, 4), 47 + n);
        P.due("14: the other half with " + n, x.blockOf(0, 33, 0) != 0, n > 1);
        P.due("14: the next head with " + n, x.blockOf(0, 0, 0) != 0, n > 2);
        x.turnTo(0, false);
        x.turnTo(0, true);
        P.due("13: promised with " + n, x.replicaOf(0, 4), n == 0 ? 141 : 144);
        P.due("13: seen with " + n, x.replicaOf(0, 9), n == 0 ? 141 : 144);
        P.due("13: records with " + n, x.journalOf(0, 0), n == 0 ? 47 : 2);
        P.due("13: generation with " + n, x.journalOf(0, 2), n == 0 ? 1 : 2);
        P.due("13: half with " + n, x.journalOf(0, 3), n == 0 ? 0 : 1);
        P.due("13: written with " + n, x.journalOf(0, 4), n == 0 ? 47 : n < 3 ? 47 + n + 2 : 50);
    }

    /** What was noted counts, though the replica crashed ahead of telling anybody. */
    private static void crashedLearningIsKept() {
        Cluster x = Probe.led(2, 2);
        Probe.write(x, 0, 0, 2, 20);
        x.tickOf(0);
        x.retryAt(0, 1);
        for (int i = x.journalOf(1, 0); i < 47; i++) {
            x.doubleAt(0);
            x.deliverAt(x.lookAt(3) - 1);
            Probe.lose(x, 2);
        }
        x.deliverAt(1);
        x.deliverAt(1);
        P.due("14: chosen", x.messageOf(1, 0), 5);
        x.crashAfter(1, 1);
        x.deliverAt(1);
        P.due("14: crashed", x.replicaOf(1, 0), 0);
        P.due("14: nobody is told", x.sessionOf(0, 0), 2);
        x.turnTo(1, true);
        P.due("13: it has learnt", x.replicaOf(1, 1), 2);
        P.due("13: by that nobody is told", x.sessionOf(0, 0), 2);
        P.due("13: a checkpoint was made", x.journalOf(1, 2), 2);
        P.due("7: it knows", x.retryAt(0, 1), 3);
    }

    /** Where its records take 512 bytes the zeros behind them have a block of their own. */
    private static void checkpointAtTheEndOfItsBlock(int versions, int bytes, int blocks) {
        Cluster x = Probe.led(versions, 2);
        for (int i = 0; i < 4; i++) {
            Probe.decide(x, 0, 2, i);
        }
        Probe.write(x, 2, 0, 4, 40);
        x.tickOf(0);
        for (int i = x.journalOf(1, 0); i < 47; i++) {
            x.doubleAt(0);
            x.deliverAt(x.lookAt(3) - 1);
            Probe.lose(x, 2);
        }
        int before = x.journalOf(1, 4);
        P.due("16: the last note lies in one block", (x.journalOf(1, 1) + 22) / 512, x.journalOf(1, 1) / 512);
        x.deliverAt(0);
        P.due("16: records", x.journalOf(1, 0), 8);
        P.due("16: bytes", x.journalOf(1, 1), bytes);
        P.due("16: a note, the blocks and a head", x.journalOf(1, 4), before + 1 + blocks + 1);
    }

    /** A leader that goes down by a checkpoint proposes nothing more, and tells nobody. */
    private static void crashInCheckpointOfLeader() {
        Cluster x = campaigned(2, 44);
        Probe.lose(x);
        Probe.write(x, 1, 0, 3, 3);
        Probe.tick(x, 0, 2);
        x.deliverAt(0);
        x.deliverAt(1);
        P.due("14: it leads", x.replicaOf(0, 6) * 100 + x.journalOf(0, 0), 246);
        x.turnTo(2, false);
        Probe.lose(x, 2);
        P.due("14: an accept to 1", x.messageOf(1, 0) * 10 + x.messageOf(1, 2), 31);
        x.deliverAt(1);
        x.deliverAt(1);
        P.due("14: learnt and proposed once more", x.replicaOf(0, 1) * 10 + x.replicaOf(0, 11), 11);
        P.due("14: a checkpoint was made", x.journalOf(0, 2), 2);
        Cluster y = campaigned(2, 45);
        Probe.lose(y);
        Probe.write(y, 1, 0, 3, 3);
        Probe.tick(y, 0, 2);
        y.deliverAt(0);
        y.deliverAt(1);
        P.due("14: it leads", y.replicaOf(0, 6) * 100 + y.journalOf(0, 0), 247);
        y.loseAt(0);
        y.deliverAt(0);
        y.crashAfter(0, 1);
        y.deliverAt(1);
        P.due("14: it is down", y.replicaOf(0, 0), 0);
        P.due("14: by the first write of the checkpoint", y.journalOf(0, 4), 48);
        P.due("14: nobody is told", y.sessionOf(0, 0), 2);
        P.due("14: chosen was sent, and nothing more", y.lookAt(3), 3);
        y.turnTo(0, true);
        P.due("14: learnt", y.replicaOf(0, 1) * 10 + y.journalOf(0, 2), 12);
    }

    /** The third generation lies over the first one; what is left of that behind it is not read. */
    private static void checkpointBackToFirstHalf() {
        Cluster x = campaigned(1, 94);
        P.due("16: generation", x.journalOf(0, 2), 3);
        P.due("16: half", x.journalOf(0, 3), 0);
        P.due("16: records", x.journalOf(0, 0), 2);
        P.due("16: head", Probe.disk(x, 0, 1, 0, 12), Probe.head(3, 0));
        P.due("16: what was behind is 0", Probe.disk(x, 0, 2, x.journalOf(0, 1), 200), new byte[200]);
        x.turnTo(0, false);
        x.turnTo(0, true);
        P.due("13: promised", x.replicaOf(0, 4), 282);
        P.due("13: records", x.journalOf(0, 0), 2);
    }
}
