import java.util.ArrayList;
import java.util.List;
import java.util.Random;

/**
 * The document's first sentence: transactions "are then decided, in one order that the replicas agree upon
 * though frames are lost, spoilt, doubled and come in any order, and replicas crash between any two writes
 * of a block, by what was written since their snapshot". Looks only at what the calls answer, so that it
 * shares no reading of the rules by which the replicas come to agree.
 */
public final class AgreementTest {

    private static final int RUNS = 30000;
    /** How many calls are left for looking at what a run has come to. */
    private static final int CALLS_TO_LOOK = 200;
    private static final int SESSIONS = 4;
    private static final int KEYS = 4;
    private static final int KEPT = 32;

    /** What a session did in one transaction, as it saw it. */
    private static final class Deed {
        private final int[] read = new int[KEYS];
        private final int[] wrote = new int[KEYS];
        private int reads;
        private int writes;
        private int seq;
    }

    private final Probe p;
    private final String name;
    private final Random random;
    private final int replicas;
    private final int versions;
    /** In how many of 100 cases replica 0 is taken: the fewer, the more replicas strive to lead. */
    private final int steady;
    private final int faults;
    private final int disorder;
    private final int eager;
    private final Cluster x;
    private final Deed[] open = new Deed[SESSIONS];
    private final List<List<Deed>> asked = new ArrayList<>();
    private final int[] sessions = new int[513];
    private final int[] seqs = new int[513];
    private int nextValue;
    /** Slots that the replica knows which knows most, which one that is, and whether it keeps all of them. */
    private int slots;
    private int first;
    private boolean all = true;

    private AgreementTest(Probe p, long seed) {
        this.p = p;
        name = "seed " + seed + ", ";
        random = new Random(seed);
        replicas = chance(50) ? 3 : 5;
        versions = 1 + random.nextInt(chance(50) ? 16 : 2);
        steady = random.nextInt(80);
        faults = random.nextInt(20);
        disorder = random.nextInt(100);
        eager = 50 + random.nextInt(40);
        x = new Cluster(replicas, versions, KEPT, 2);
        for (int s = 0; s < SESSIONS; s++) {
            asked.add(new ArrayList<>());
        }
    }

    public static void main(String[] args) {
        Probe p = new Probe();
        int slots = 0;
        int followed = 0;
        for (long seed = 1; seed <= RUNS; seed++) {
            AgreementTest run = new AgreementTest(p, seed);
            run.beFaulty();
            run.oneOrder();
            if (run.all) {
                run.decidedBySnapshot();
                followed++;
            }
            slots += run.slots;
        }
        p.due("the runs decide more than two slots each", slots > 2 * RUNS, true);
        p.due("most runs can be followed from their first slot on", 2 * followed > RUNS, true);
        p.end("AgreementTest");
    }

    private boolean chance(int percent) {
        return random.nextInt(100) < percent;
    }

    private int replica() {
        return chance(steady) ? 0 : random.nextInt(replicas);
    }

    private void beFaulty() {
        while (x.callsLeft() > CALLS_TO_LOOK) {
            if (chance(faults)) {
                fault(x.lookAt(3));
            } else if (!(chance(eager) && deliver())) {
                act();
            }
        }
        for (int r = 0; r < replicas; r++) {
            x.turnTo(r, true);
        }
    }

    private boolean deliver() {
        int i = chance(disorder) ? random.nextInt(Math.max(1, x.lookAt(3))) : 0;
        return x.deliverAt(i) >= 0;
    }

    private void act() {
        if (chance(60)) {
            use(random.nextInt(SESSIONS));
        } else {
            int r = replica();
            for (int times = random.nextInt(4); times >= 0; times--) {
                x.tickOf(r);
            }
        }
    }

    private void fault(int frames) {
        int i = frames == 0 ? 0 : random.nextInt(frames);
        switch (random.nextInt(6)) {
            case 0:
                x.loseAt(i);
                break;
            case 1:
                x.doubleAt(i);
                break;
            case 2:
                x.spoilAt(i, random.nextInt(9), random.nextInt(8));
                break;
            case 3:
                x.crashAfter(replica(), random.nextInt(3));
                break;
            case 4:
                x.turnTo(replica(), false);
                break;
            default:
                for (int r = 0; r < replicas; r++) {
                    x.turnTo(r, true);
                }
                break;
        }
    }

    /** A whole transaction, or one that is left open for a while, or a retry. */
    private void use(int s) {
        int what = x.sessionOf(s, 0);
        if (what == 2) {
            x.retryAt(s, replica());
        } else if (what == 1) {
            commit(s);
        } else if (x.beginAt(s, replica(), false)) {
            open[s] = new Deed();
            read(s, random.nextInt(KEYS));
            write(s, random.nextInt(KEYS));
            if (chance(70)) {
                commit(s);
            }
        }
    }

    private void read(int s, int key) {
        open[s].read[key] = x.readKey(s, key);
        open[s].reads |= 1 << key;
    }

    private void write(int s, int key) {
        nextValue++;
        x.writeKey(s, key, nextValue);
        open[s].wrote[key] = nextValue;
        open[s].writes |= 1 << key;
    }

    private void commit(int s) {
        if (x.commitIt(s) == 2) {
            asked.get(s).add(open[s]);
            open[s].seq = asked.get(s).size();
        }
    }

    /** No two replicas know different requests of a slot, or different values at an index. */
    private void oneOrder() {
        for (int r = 0; r < replicas; r++) {
            int index = x.replicaOf(r, 1);
            int base = x.replicaOf(r, 3);
            for (int slot = base + 1; slot <= index; slot++) {
                knows(r, slot, x.slotOf(r, slot, 0), x.slotOf(r, slot, 1));
            }
            if (index > slots) {
                slots = index;
                first = r;
                all = base == 0;
            }
        }
        for (int r = 1; r < replicas; r++) {
            sameValues(r - 1, r);
        }
    }

    private void knows(int r, int slot, int session, int seq) {
        if (seqs[slot] != 0) {
            p.due(name + "the session of slot " + slot + " at replica " + r, session, sessions[slot]);
            p.due(name + "the seq of slot " + slot + " at replica " + r, seq, seqs[slot]);
        }
        sessions[slot] = session;
        seqs[slot] = seq;
    }

    private void sameValues(int one, int other) {
        int index = Math.min(x.replicaOf(one, 1), x.replicaOf(other, 1));
        if (index >= x.replicaOf(one, 2) && index >= x.replicaOf(other, 2)) {
            for (int key = 0; key < KEYS; key++) {
                p.due(name + "key " + key + " at index " + index, x.valueAt(one, key, index),
                    x.valueAt(other, key, index));
            }
        }
    }

    /**
     * Follows the slots of the replica that knows most: who read what is written since is aborted, all
     * others read what is so just ahead of their slot, as if they had run there alone.
     */
    private void decidedBySnapshot() {
        int[] values = new int[KEYS];
        int[] written = new int[slots + 1];
        int[] verdicts = new int[SESSIONS];
        for (int slot = 1; slot <= slots; slot++) {
            Deed deed = asked.get(sessions[slot]).get(seqs[slot] - 1);
            boolean fails = isOverwritten(deed, written, x.slotOf(first, slot, 2), slot);
            verdicts[sessions[slot]] = fails ? 2 : 1;
            if (!fails) {
                written[slot] = deed.writes;
                take(deed, values, slot);
            }
        }
        for (int key = 0; key < KEYS; key++) {
            p.due(name + "key " + key + " in the end", x.valueAt(first, key, slots), values[key]);
        }
        for (int s = 0; s < SESSIONS; s++) {
            p.due(name + "the verdict of session " + s, x.knownOf(first, s, true), verdicts[s]);
            told(s, x.knownOf(first, s, false), verdicts[s]);
        }
    }

    private boolean isOverwritten(Deed deed, int[] written, int snapshot, int slot) {
        boolean fails = snapshot < slot - 1 - versions;
        for (int i = snapshot + 1; i < slot; i++) {
            fails |= (written[i] & deed.reads) != 0;
        }
        return fails;
    }

    private void take(Deed deed, int[] values, int slot) {
        for (int key = 0; key < KEYS; key++) {
            if ((deed.reads >> key & 1) == 1) {
                p.due(name + "what slot " + slot + " read of key " + key, deed.read[key], values[key]);
            }
            if ((deed.writes >> key & 1) == 1) {
                values[key] = deed.wrote[key];
            }
        }
    }

    /** A session that was told something of its latest request was told what is so for good. */
    private void told(int s, int seq, int verdict) {
        int what = x.sessionOf(s, 0);
        boolean isOfLatest = open[s] != null && open[s].seq > 0 && open[s].seq == x.sessionOf(s, 1);
        if (isOfLatest && (what == 3 || what == 4)) {
            p.due(name + "the seq that session " + s + " was told of", seq, open[s].seq);
            p.due(name + "what session " + s + " was told", what, verdict + 2);
        }
    }
}
