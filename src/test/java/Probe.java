import java.io.ByteArrayOutputStream;
import java.util.Arrays;
import java.util.zip.CRC32;

/** What the tests of the promises share: counting what is wrong, short ways, and bytes. */
final class Probe {

    private int wrong;

    void due(String what, long got, long want) {
        if (got != want) {
            wrong++;
            System.out.println(what + " answered " + got + ", due is " + want);
        }
    }

    void due(String what, boolean got, boolean want) {
        due(what, got ? 1 : 0, want ? 1 : 0);
    }

    void due(String what, byte[] got, byte[] want) {
        if (!Arrays.equals(got, want)) {
            wrong++;
            System.out.println(what + " has " + Arrays.toString(got) + ", due is " + Arrays.toString(want));
        }
    }

    /** 0 for an answer, 1 for IllegalArgumentException, 2 for IllegalStateException. */
    static int readThrows(SnapCluster x, int session, int key) {
        try {
            x.readKey(session, key);
            return 0;
        } catch (IllegalArgumentException e) {
            return 1;
        } catch (IllegalStateException e) {
            return 2;
        }
    }

    static boolean valueThrows(SnapCluster x, int replica, int key, int index) {
        try {
            x.valueAt(replica, key, index);
            return false;
        } catch (IndexOutOfBoundsException e) {
            return true;
        }
    }

    /** Has a session commit that a key be a value. */
    static void write(SnapCluster x, int session, int replica, int key, int value) {
        x.beginAt(session, replica, false);
        x.writeKey(session, key, value);
        x.commitIt(session);
    }

    static void tick(SnapCluster x, int replica, int times) {
        for (int i = 0; i < times; i++) {
            x.tickOf(replica);
        }
    }

    /** All frames come, in the order in which they were sent. */
    static void deliver(SnapCluster x) {
        for (int i = 0; i < 400 && x.deliverAt(0) >= 0; i++) {
            continue;
        }
    }

    /** All frames come but for those to one replica, which are lost. */
    static void deliverBut(SnapCluster x, int replica) {
        for (int i = 0; i < 400 && x.lookAt(3) > 0; i++) {
            if (x.messageOf(0, 2) == replica) {
                x.loseAt(0);
            } else {
                x.deliverAt(0);
            }
        }
    }

    static void lose(SnapCluster x) {
        lose(x, 0);
    }

    /** All frames from one on are lost. */
    static void lose(SnapCluster x, int from) {
        for (int i = 0; i < 400 && x.loseAt(from); i++) {
            continue;
        }
    }

    /** Has the leader 0 decide a write of session 7, with 1 alone; frames that were in flight stay. */
    static void decideBehind(SnapCluster x) {
        int from = x.lookAt(3);
        write(x, 7, 0, 7, from);
        tick(x, 0, 1);
        for (int i = 0; i < 100 && x.lookAt(3) > from; i++) {
            if (x.messageOf(from, 2) == 2) {
                x.loseAt(from);
            } else {
                x.deliverAt(from);
            }
        }
    }

    /** Three replicas with patience 2, of which 0 leads with ballot 3: session 15 wrote 1 to key 15. */
    static SnapCluster led(int versions, int kept) {
        SnapCluster x = new SnapCluster(3, versions, kept, 2);
        write(x, 15, 0, 15, 1);
        tick(x, 0, 2);
        deliver(x);
        return x;
    }

    /** Has the leader 0 decide one more write, with all replicas. */
    static void decide(SnapCluster x, int session, int key, int value) {
        write(x, session, 0, key, value);
        tick(x, 0, 1);
        deliver(x);
    }

    static byte[] bytes(int... values) {
        byte[] row = new byte[values.length];
        for (int i = 0; i < row.length; i++) {
            row[i] = (byte) values[i];
        }
        return row;
    }

    static byte[] join(byte[]... parts) {
        ByteArrayOutputStream out = new ByteArrayOutputStream();
        for (byte[] part : parts) {
            out.writeBytes(part);
        }
        return out.toByteArray();
    }

    static byte[] checked(byte[] row) {
        CRC32 crc = new CRC32();
        crc.update(row);
        int sum = (int) crc.getValue();
        return join(row, bytes(sum, sum >> 8, sum >> 16, sum >> 24));
    }

    static byte[] inRecord(byte[] payload) {
        byte[] row = checked(join(bytes(payload.length, payload.length >> 8), payload));
        return payload.length % 2 == 1 ? join(row, bytes(0)) : row;
    }

    static byte[] head(int generation, int half) {
        return checked(bytes(74, 49, half, 0, generation, generation >> 8, generation >> 16, generation >> 24));
    }

    static byte[] frame(SnapCluster x, int i) {
        byte[] row = new byte[Math.max(0, x.messageOf(i, 8))];
        long word = 0;
        for (int at = 0; at < row.length; at++) {
            word = at % 8 == 0 ? x.frameOf(i, at / 8) : word << 8;
            row[at] = (byte) (word >> 56);
        }
        return row;
    }

    /** Bytes of the disk from a byte of a block on. */
    static byte[] disk(SnapCluster x, int replica, int block, int from, int count) {
        byte[] row = new byte[count];
        long word = 0;
        for (int i = -(from % 8); i < count; i++) {
            int at = 512 * block + from + i;
            word = at % 8 == 0 ? x.blockOf(replica, at / 512, at % 512 / 8) : word << 8;
            if (i >= 0) {
                row[i] = (byte) (word >> 56);
            }
        }
        return row;
    }

    void end(String name) {
        System.out.println(name + ": " + (wrong == 0 ? "all answers are as due" : wrong + " answers are not as due"));
        if (wrong != 0) {
            System.exit(1);
        }
    }
}
