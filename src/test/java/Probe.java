import java.io.ByteArrayOutputStream;
import java.lang.reflect.InvocationTargetException;
import java.lang.reflect.Method;
import java.util.Arrays;
import java.util.Comparator;
import java.util.function.Consumer;
import java.util.function.Supplier;
import java.util.zip.CRC32;

/** What the tests of the promises share: counting what is wrong, short ways, and bytes. */
final class Probe {

    private int wrong;
    /** The test that runs, if it is one of those that are found by their names. */
    private String test = "";

    /**
     * Runs every method of a class that is named by a promise, each as a test of its own, and answers
     * which promises these are of (bit n for promise n).
     */
    int runAll(Class<?> tests) {
        Method[] methods = tests.getDeclaredMethods();
        Arrays.sort(methods, Comparator.comparing(Method::getName));
        int promises = 0;
        for (Method one : methods) {
            if (one.getName().matches("promise\\d+.*")) {
                String number = one.getName().replaceFirst("promise(\\d+).*", "$1");
                promises |= 1 << Integer.parseInt(number);
                run(one);
            }
        }
        return promises;
    }

    private void run(Method one) {
        test = one.getName() + ": ";
        try {
            one.invoke(null, this);
        } catch (InvocationTargetException e) {
            wrong++;
            System.out.println(test + "threw " + e.getCause());
        } catch (IllegalAccessException e) {
            wrong++;
            System.out.println(test + "can't be run");
        }
        test = "";
    }

    void due(String what, long got, long want) {
        if (got != want) {
            wrong++;
            System.out.println(test + what + " answered " + got + ", due is " + want);
        }
    }

    void due(String what, boolean got, boolean want) {
        due(what, got ? 1 : 0, want ? 1 : 0);
    }

    void due(String what, byte[] got, byte[] want) {
        if (!Arrays.equals(got, want)) {
            wrong++;
            System.out.println(test + what + " has " + Arrays.toString(got) + ", due is " + Arrays.toString(want));
        }
    }

    /** What messageOf tells of a frame, from what 0 on. */
    void message(String name, Cluster x, int i, int... wanted) {
        for (int what = 0; what < wanted.length; what++) {
            due(name + ", messageOf " + what, x.messageOf(i, what), wanted[what]);
        }
    }

    /** The latest frame of a kind from one replica to another one comes. */
    void come(Cluster x, int kind, int from, int to) {
        int i = find(x, kind, from, to);
        due("a frame of kind " + kind + " from " + from + " to " + to, x.deliverAt(i), kind);
    }

    /** The latest frame of a kind from one replica to another one; NONE if there is none. */
    static int find(Cluster x, int kind, int from, int to) {
        for (int i = x.lookAt(3) - 1; i >= 0; i--) {
            if (x.messageOf(i, 0) == kind && x.messageOf(i, 1) == from && x.messageOf(i, 2) == to) {
                return i;
            }
        }
        return SnapCluster.NONE;
    }

    /** The frame that was sent last. */
    static int last(Cluster x) {
        return x.lookAt(3) - 1;
    }

    /** A call that is refused leaves all as it is without it. */
    void unchanged(String what, Supplier<Cluster> made, Consumer<Cluster> refused) {
        Cluster with = made.get();
        refused.accept(with);
        int[] got = allOf(with);
        int[] want = allOf(made.get());
        due(what + " changes so much", Arrays.mismatch(got, want), -1);
    }

    /** What can be looked at within some 400 calls, as long as there are few replicas and frames. */
    private static int[] allOf(Cluster x) {
        int[] all = new int[512];
        int at = 0;
        for (int which = 0; which < 10; which++) {
            all[at++] = x.lookAt(which);
        }
        for (int r = 0; r < x.lookAt(0); r++) {
            for (int what = 0; what < 15; what++) {
                all[at++] = x.replicaOf(r, what);
            }
            for (int what = 0; what < 6; what++) {
                all[at++] = x.journalOf(r, what);
            }
        }
        for (int s = 0; s < 16; s++) {
            for (int what = 0; what < 6; what++) {
                all[at++] = x.sessionOf(s, what);
            }
        }
        for (int i = 0; i < x.lookAt(3); i++) {
            for (int what = 0; what < 10; what++) {
                all[at++] = x.messageOf(i, what);
            }
        }
        return all;
    }

    /** 0 for an answer, 1 for IllegalArgumentException, 2 for IllegalStateException, 3 for another. */
    static int readThrows(Cluster x, int session, int key) {
        try {
            x.readKey(session, key);
            return 0;
        } catch (RuntimeException e) {
            // A class derived from these is not what the document says.
            return e.getClass() == IllegalArgumentException.class ? 1
                : e.getClass() == IllegalStateException.class ? 2 : 3;
        }
    }

    static boolean valueThrows(Cluster x, int replica, int key, int index) {
        try {
            x.valueAt(replica, key, index);
            return false;
        } catch (RuntimeException e) {
            return e.getClass() == IndexOutOfBoundsException.class;
        }
    }

    /** Has a session commit that a key be a value. */
    static void write(Cluster x, int session, int replica, int key, int value) {
        x.beginAt(session, replica, false);
        x.writeKey(session, key, value);
        x.commitIt(session);
    }

    static void tick(Cluster x, int replica, int times) {
        for (int i = 0; i < times; i++) {
            x.tickOf(replica);
        }
    }

    /** All frames come, in the order in which they were sent. */
    static void deliver(Cluster x) {
        for (int i = 0; i < 400 && x.deliverAt(0) >= 0; i++) {
            continue;
        }
    }

    /** All frames come but for those to one replica, which are lost. */
    static void deliverBut(Cluster x, int replica) {
        for (int i = 0; i < 400 && x.lookAt(3) > 0; i++) {
            if (x.messageOf(0, 2) == replica) {
                x.loseAt(0);
            } else {
                x.deliverAt(0);
            }
        }
    }

    static void lose(Cluster x) {
        lose(x, 0);
    }

    /** All frames from one on are lost. */
    static void lose(Cluster x, int from) {
        for (int i = 0; i < 400 && x.loseAt(from); i++) {
            continue;
        }
    }

    /** Has the leader 0 decide a write of session 7, with 1 alone; frames that were in flight stay. */
    static void decideBehind(Cluster x) {
        int from = x.lookAt(3);
        write(x, 7, 0, 7, from);
        tick(x, 0, 1);
        for (int i = 0; i < 100 && x.lookAt(3) > from; i++) {
            if (x.messageOf(from, 2) == 2) {
                x.loseAt(from);
            } else {
                x.deliverAt(from);
            }
        }
    }

    /** Three replicas with patience 2, of which 0 leads with ballot 3: session 15 wrote 1 to key 15. */
    static Cluster led(int versions, int kept) {
        Cluster x = new Cluster(3, versions, kept, 2);
        write(x, 15, 0, 15, 1);
        tick(x, 0, 2);
        deliver(x);
        return x;
    }

    /** Has the leader 0 decide one more write, with all replicas. */
    static void decide(Cluster x, int session, int key, int value) {
        write(x, session, 0, key, value);
        tick(x, 0, 1);
        deliver(x);
    }

    static byte[] bytes(int... values) {
        byte[] row = new byte[values.length];
        for (int i = 0; i < row.length; i++) {
            row[i] = (byte) values[i];
        }
        return row;
    }

    static byte[] join(byte[]... parts) {
        ByteArrayOutputStream out = new ByteArrayOutputStream();
        for (byte[] part : parts) {
            out.writeBytes(part);
        }
        return out.toByteArray();
    }

    static byte[] checked(byte[] row) {
        CRC32 crc = new CRC32();
        crc.update(row);
        int sum = (int) crc.getValue();
        return join(row, bytes(sum, sum >> 8, sum >> 16, sum >> 24));
    }

    static byte[] inRecord(byte[] payload) {
        byte[] row = checked(join(bytes(payload.length, payload.length >> 8), payload));
        return payload.length % 2 == 1 ? join(row, bytes(0)) : row;
    }

    static byte[] head(int generation, int half) {
        return checked(bytes(74, 49, half, 0, generation, generation >> 8, generation >> 16, generation >> 24));
    }

    static byte[] frame(Cluster x, int i) {
        byte[] row = new byte[Math.max(0, x.messageOf(i, 8))];
        long word = 0;
        for (int at = 0; at < row.length; at++) {
            word = at % 8 == 0 ? x.frameOf(i, at / 8) : word << 8;
            row[at] = (byte) (word >> 56);
        }
        return row;
    }

    /** Bytes of the disk from a byte of a block on. */
    static byte[] disk(Cluster x, int replica, int block, int from, int count) {
        byte[] row = new byte[count];
        long word = 0;
        for (int i = -(from % 8); i < count; i++) {
            int at = 512 * block + from + i;
            word = at % 8 == 0 ? x.blockOf(replica, at / 512, at % 512 / 8) : word << 8;
            if (i >= 0) {
                row[i] = (byte) (word >> 56);
            }
        }
        return row;
    }

    void end(String name) {
        System.out.println(name + ": " + (wrong == 0 ? "all answers are as due" : wrong + " answers are not as due"));
        if (wrong != 0) {
            System.exit(1);
        }
    }
}
