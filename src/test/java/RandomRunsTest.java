import java.util.ArrayList;
import java.util.List;
import java.util.Random;

/**
 * Random runs of at most 512 calls, each call made on the program and on ClusterModel. The number of
 * runs may be given; a second argument has the whole of both compared after every call, which goes
 * beyond the calls that the document promises and is for hunting alone.
 */
public final class RandomRunsTest {

    private static final int CALLS = 512;
    private static final int[] EDGES = {-1, 0, 1, 2, 7, 8, 9, 15, 16, 63, 64, 199, 200, 1000, 1001,
        Integer.MIN_VALUE, Integer.MAX_VALUE};

    /** What a run is mostly made of, so that all corners are reached within its calls. */
    private enum Mood { CHAOS, STEADY, STORM, FLOOD }

    private final Random random;
    private final Mood mood;
    private final SnapCluster real;
    private final ClusterModel model;
    private final int replicas;
    private final int users;
    private final int disorder;
    private final int faults;
    private final int crashes;
    private final int lazy;
    private int cutOff = -1;
    private final List<String> calls = new ArrayList<>();
    private boolean wrong;

    private RandomRunsTest(long seed) {
        random = new Random(seed);
        mood = Mood.values()[(int) (seed % 4)];
        int n = pick(4) == 0 ? 3 + pick(7) : 3 + pick(2);
        if (mood == Mood.STORM || mood == Mood.STEADY) {
            n = pick(6) == 0 ? 5 : 3;
        } else if (mood == Mood.FLOOD) {
            n = 7 + pick(3);
        }
        int versions = pick(3) == 0 ? 1 + pick(16) : 1 + pick(4);
        int kept = pick(3) == 0 ? 1 + pick(32) : 1 + pick(3);
        int patience = pick(4) == 0 ? 2 + pick(10) : 2;
        if (pick(20) == 0) {
            n = edge();
            versions = edge();
            kept = edge();
            patience = edge();
        }
        calls.add("new SnapCluster(" + n + ", " + versions + ", " + kept + ", " + patience + ")");
        real = new SnapCluster(n, versions, kept, patience);
        model = new ClusterModel(n, versions, kept, patience);
        replicas = model.lookAt(0);
        users = 1 + pick(mood == Mood.CHAOS ? 16 : 6);
        boolean calm = mood == Mood.STEADY;
        disorder = calm || pick(4) > 0 ? pick(20) : 100;
        faults = pick(3) == 0 ? 0 : pick(calm ? 8 : 25);
        crashes = pick(3) == 0 ? 0 : pick(calm ? 4 : 10);
        lazy = mood == Mood.FLOOD ? 200 : calm ? 0 : pick(8);
    }

    private int pick(int bound) {
        return random.nextInt(bound);
    }

    private int edge() {
        return EDGES[pick(EDGES.length)];
    }

    private boolean chance(int percent) {
        return pick(100) < percent;
    }

    private void due(String call, long got, long want) {
        calls.add(call + " = " + got);
        if (got != want) {
            wrong = true;
            calls.add("    due is " + want);
        }
    }

    private static long flag(boolean answer) {
        return answer ? 1 : 0;
    }

    private int replica() {
        return chance(2) ? edge() : pick(replicas);
    }

    private int session() {
        return chance(2) ? edge() : pick(users);
    }

    private int key() {
        return chance(2) ? edge() : chance(70) ? pick(4) : pick(16);
    }

    private int frame() {
        int count = model.lookAt(3);
        if (count == 0 || chance(2)) {
            return chance(20) ? edge() : 0;
        }
        return chance(disorder) ? pick(count) : 0;
    }

    private void act() {
        int dice = pick(100);
        if (dice < faults) {
            fault();
        } else if (dice < faults + crashes) {
            crash(replica());
        } else if (mood == Mood.STEADY && chance(2)) {
            cutOff = chance(50) ? -1 : pick(replicas);
            tick(0);
        } else if (mood == Mood.STORM && chance(60)) {
            storm();
        } else if (model.lookAt(3) > lazy && chance(75)) {
            deliver(frame());
        } else if (chance(mood == Mood.FLOOD ? 20 : 65)) {
            use(session());
        } else {
            tick(chance(60) ? 0 : replica());
        }
    }

    private void tick(int r) {
        due("tickOf(" + r + ")", real.tickOf(r), model.tickOf(r));
    }

    private void deliver(int i) {
        if (cutOff >= 0 && model.messageOf(i, 2) == cutOff && !chance(10)) {
            due("loseAt(" + i + ")", flag(real.loseAt(i)), flag(model.loseAt(i)));
        } else {
            due("deliverAt(" + i + ")", real.deliverAt(i), model.deliverAt(i));
        }
    }

    /** Makes journals grow fast, and lets replicas crash where a checkpoint is near. */
    private void storm() {
        int r = pick(replicas);
        if (model.replicaOf(r, 0) == 0) {
            crash(r);
        } else if (model.journalOf(r, 0) >= 46 && model.journalOf(r, 5) < 0 && chance(30)) {
            crash(r);
        } else if (model.replicaOf(r, 10) == 0 && model.replicaOf(r, 6) == 0) {
            use(session());
        } else if (model.lookAt(3) > 0 && model.messageOf(model.lookAt(3) - 1, 0) == 3 && chance(60)) {
            int last = model.lookAt(3) - 1;
            due("doubleAt(" + last + ")", flag(real.doubleAt(last)), flag(model.doubleAt(last)));
            deliver(last);
        } else {
            tick(r);
        }
    }

    private void use(int s) {
        int what = model.sessionOf(s, 0);
        if (what == 1 && !chance(3)) {
            useActive(s);
        } else if (what == 2 && !chance(3)) {
            if (chance(20) || model.lookAt(3) == 0) {
                int r = replica();
                due("retryAt(" + s + ", " + r + ")", real.retryAt(s, r), model.retryAt(s, r));
            } else {
                deliver(frame());
            }
        } else if (chance(3)) {
            useActive(s);
        } else {
            int r = chance(60) ? 0 : replica();
            boolean only = chance(8);
            due("beginAt(" + s + ", " + r + ", " + only + ")", flag(real.beginAt(s, r, only)),
                flag(model.beginAt(s, r, only)));
        }
    }

    private void useActive(int s) {
        int dice = pick(10);
        if (dice < 2) {
            read(s, key());
        } else if (dice < 5 || (model.sessionOf(s, 5) == 0 && chance(80))) {
            int k = key();
            int value = chance(10) ? edge() : random.nextInt();
            due("writeKey(" + s + ", " + k + ", " + value + ")", flag(real.writeKey(s, k, value)),
                flag(model.writeKey(s, k, value)));
        } else if (dice < 9 || chance(70)) {
            due("commitIt(" + s + ")", real.commitIt(s), model.commitIt(s));
        } else {
            due("giveUp(" + s + ")", flag(real.giveUp(s)), flag(model.giveUp(s)));
        }
    }

    private void read(int s, int k) {
        String call = "readKey(" + s + ", " + k + ")";
        long got;
        long want;
        try {
            got = real.readKey(s, k);
        } catch (IllegalArgumentException e) {
            got = 1L << 40;
        } catch (IllegalStateException e) {
            got = 2L << 40;
        }
        try {
            want = model.readKey(s, k);
        } catch (IllegalArgumentException e) {
            want = 1L << 40;
        } catch (IllegalStateException e) {
            want = 2L << 40;
        }
        due(call, got, want);
    }

    private void value(int r, int k, int i) {
        long got;
        long want;
        try {
            got = real.valueAt(r, k, i);
        } catch (IndexOutOfBoundsException e) {
            got = 1L << 40;
        }
        try {
            want = model.valueAt(r, k, i);
        } catch (IndexOutOfBoundsException e) {
            want = 1L << 40;
        }
        due("valueAt(" + r + ", " + k + ", " + i + ")", got, want);
    }

    private void fault() {
        int i = frame();
        int dice = pick(10);
        if (dice < 4) {
            due("loseAt(" + i + ")", flag(real.loseAt(i)), flag(model.loseAt(i)));
        } else if (dice < 8) {
            due("doubleAt(" + i + ")", flag(real.doubleAt(i)), flag(model.doubleAt(i)));
        } else {
            int k = chance(10) ? edge() : pick(30);
            int bit = chance(10) ? edge() : pick(8);
            due("spoilAt(" + i + ", " + k + ", " + bit + ")", flag(real.spoilAt(i, k, bit)),
                flag(model.spoilAt(i, k, bit)));
        }
    }

    private void crash(int r) {
        if (chance(40)) {
            int n = chance(5) ? edge() : pick(6);
            due("crashAfter(" + r + ", " + n + ")", flag(real.crashAfter(r, n)), flag(model.crashAfter(r, n)));
            return;
        }
        boolean up = model.replicaOf(r, 0) == 0 ? !chance(5) : chance(5);
        due("turnTo(" + r + ", " + up + ")", flag(real.turnTo(r, up)), flag(model.turnTo(r, up)));
    }

    private void ask() {
        int r = replica();
        int s = session();
        int i = chance(50) ? Math.max(0, model.lookAt(3) - 1) : frame();
        switch (pick(10)) {
            case 0 -> askReplica(r, chance(3) ? edge() : pick(15));
            case 1 -> askJournal(r, chance(3) ? edge() : pick(6));
            case 2 -> askBlock(r, chance(3) ? edge() : pick(10) == 0 ? pick(64) : pick(4) + 31 * pick(2), pick(66) - 1);
            case 3 -> askFrame(i, chance(3) ? edge() : pick(14));
            case 4 -> value(r, key(), chance(5) ? edge() : model.lookAt(6) - pick(5));
            case 5 -> askSlot(r, chance(5) ? edge() : model.lookAt(6) - pick(6), chance(3) ? edge() : pick(5));
            case 6 -> askKnown(r, s, chance(50));
            case 7 -> askSession(s, chance(3) ? edge() : pick(6));
            case 8 -> askMessage(i, chance(3) ? edge() : pick(10));
            default -> askCluster(chance(3) ? edge() : pick(10));
        }
    }

    private void askReplica(int r, int what) {
        due("replicaOf(" + r + ", " + what + ")", real.replicaOf(r, what), model.replicaOf(r, what));
    }

    private void askJournal(int r, int what) {
        due("journalOf(" + r + ", " + what + ")", real.journalOf(r, what), model.journalOf(r, what));
    }

    private void askBlock(int r, int b, int k) {
        due("blockOf(" + r + ", " + b + ", " + k + ")", real.blockOf(r, b, k), model.blockOf(r, b, k));
    }

    private void askFrame(int i, int k) {
        due("frameOf(" + i + ", " + k + ")", real.frameOf(i, k), model.frameOf(i, k));
    }

    private void askSlot(int r, int slot, int what) {
        due("slotOf(" + r + ", " + slot + ", " + what + ")", real.slotOf(r, slot, what), model.slotOf(r, slot, what));
    }

    private void askKnown(int r, int s, boolean verdict) {
        due("knownOf(" + r + ", " + s + ", " + verdict + ")", real.knownOf(r, s, verdict),
            model.knownOf(r, s, verdict));
    }

    private void askSession(int s, int what) {
        due("sessionOf(" + s + ", " + what + ")", real.sessionOf(s, what), model.sessionOf(s, what));
    }

    private void askMessage(int i, int what) {
        due("messageOf(" + i + ", " + what + ")", real.messageOf(i, what), model.messageOf(i, what));
    }

    private void askCluster(int which) {
        due("lookAt(" + which + ")", real.lookAt(which), model.lookAt(which));
    }

    private void askAll() {
        int before = calls.size();
        for (int which = -1; which < 11; which++) {
            askCluster(which);
        }
        for (int r = -1; r <= replicas; r++) {
            for (int what = -1; what < 16; what++) {
                askReplica(r, what);
                askJournal(r, what);
            }
            for (int s = 0; s < 16; s++) {
                askKnown(r, s, true);
                askKnown(r, s, false);
            }
            int index = Math.max(0, model.replicaOf(r, 1));
            for (int i = index - 18; i < index + 2; i++) {
                for (int k = 0; k < 16; k++) {
                    value(r, k, i);
                }
            }
            for (int slot = index - 34; slot < index + 2; slot++) {
                for (int what = -1; what < 6; what++) {
                    askSlot(r, slot, what);
                }
            }
            for (int b = 0; b < 64; b++) {
                for (int k = 0; k < 64; k++) {
                    askBlock(r, b, k);
                }
            }
        }
        for (int s = -1; s < 17; s++) {
            for (int what = -1; what < 7; what++) {
                askSession(s, what);
            }
        }
        for (int i = -1; i <= model.lookAt(3); i++) {
            for (int what = -1; what < 11; what++) {
                askMessage(i, what);
            }
            for (int k = -1; k < 14; k++) {
                askFrame(i, k);
            }
        }
        if (!wrong) {
            calls.subList(before, calls.size()).clear();
        }
    }

    private boolean run(boolean hunting) {
        // The first row of calls is the constructor, and one act is at most two calls.
        while (calls.size() < CALLS && !wrong) {
            if (hunting) {
                act();
                askAll();
            } else if (chance(80)) {
                act();
            } else {
                ask();
            }
        }
        if (wrong) {
            calls.forEach(System.out::println);
        }
        return !wrong;
    }

    public static void main(String[] args) {
        int runs = args.length > 0 ? Integer.parseInt(args[0]) : 4000;
        for (int seed = 1; seed <= runs; seed++) {
            RandomRunsTest test = new RandomRunsTest(seed);
            if (!test.run(args.length > 1)) {
                System.out.println("run of seed " + seed + " went wrong");
                System.exit(1);
            }
        }
        System.out.println(runs + " random runs are as due");
    }
}
