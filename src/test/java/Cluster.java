/** A SnapCluster that counts its calls: nothing is promised beyond the 512th, so no test may go there. */
final class Cluster {

    private static final int MOST_CALLS = 512;

    private final SnapCluster x;
    private int calls;

    Cluster(int replicas, int versions, int kept, int patience) {
        x = new SnapCluster(replicas, versions, kept, patience);
    }

    private SnapCluster counted() {
        calls++;
        if (calls > MOST_CALLS) {
            throw new AssertionError("a test makes more than 512 calls");
        }
        return x;
    }

    int callsLeft() {
        return MOST_CALLS - calls;
    }

    boolean beginAt(int session, int replica, boolean onlyReads) {
        return counted().beginAt(session, replica, onlyReads);
    }

    int readKey(int session, int key) {
        return counted().readKey(session, key);
    }

    boolean writeKey(int session, int key, int value) {
        return counted().writeKey(session, key, value);
    }

    int commitIt(int session) {
        return counted().commitIt(session);
    }

    boolean giveUp(int session) {
        return counted().giveUp(session);
    }

    int retryAt(int session, int replica) {
        return counted().retryAt(session, replica);
    }

    int tickOf(int replica) {
        return counted().tickOf(replica);
    }

    int deliverAt(int i) {
        return counted().deliverAt(i);
    }

    boolean loseAt(int i) {
        return counted().loseAt(i);
    }

    boolean doubleAt(int i) {
        return counted().doubleAt(i);
    }

    boolean spoilAt(int i, int k, int bit) {
        return counted().spoilAt(i, k, bit);
    }

    boolean turnTo(int replica, boolean up) {
        return counted().turnTo(replica, up);
    }

    boolean crashAfter(int replica, int n) {
        return counted().crashAfter(replica, n);
    }

    int replicaOf(int replica, int what) {
        return counted().replicaOf(replica, what);
    }

    int journalOf(int replica, int what) {
        return counted().journalOf(replica, what);
    }

    long blockOf(int replica, int b, int k) {
        return counted().blockOf(replica, b, k);
    }

    long frameOf(int i, int k) {
        return counted().frameOf(i, k);
    }

    int valueAt(int replica, int key, int index) {
        return counted().valueAt(replica, key, index);
    }

    int slotOf(int replica, int slot, int what) {
        return counted().slotOf(replica, slot, what);
    }

    int knownOf(int replica, int session, boolean verdict) {
        return counted().knownOf(replica, session, verdict);
    }

    int sessionOf(int session, int what) {
        return counted().sessionOf(session, what);
    }

    int messageOf(int i, int what) {
        return counted().messageOf(i, what);
    }

    int lookAt(int which) {
        return counted().lookAt(which);
    }
}
