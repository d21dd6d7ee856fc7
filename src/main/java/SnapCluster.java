/**
 * A replicated database whose transactions run on a snapshot of one replica and are decided, when
 * they commit, in one order that all replicas agree upon. The words in capitals in the comments are
 * those of the document.
 */
public final class SnapCluster {

    public static final int NONE = -1;

    private static final int KEYS = 16;
    private static final int SESSIONS = 16;
    private static final int MOST_VERSIONS = 16;
    private static final int MOST_KEPT = 32;
    private static final int MOST_WAITING = 8;
    private static final int MOST_FRAMES = 200;
    private static final int MOST_WRITES_AHEAD = 1000;

    private static final int PREPARE = 1;
    private static final int PROMISE = 2;
    private static final int ACCEPT = 3;
    private static final int ACCEPTED = 4;
    private static final int CHOSEN = 5;
    private static final int ASK = 6;
    private static final int DENY = 7;
    private static final int STATE = 8;
    private static final int FORWARD = 9;
    private static final int BEAT = 10;

    private static final int NOTED_PROMISE = 1;
    private static final int NOTED_ACCEPTED = 2;
    private static final int NOTED_LEARNT = 3;
    private static final int NOTED_STATE = 4;
    private static final int NOTED_VALUES = 5;

    private static final int FOLLOWER = 0;
    private static final int CANDIDATE = 1;
    private static final int LEADER = 2;

    private static final int IDLE = 0;
    private static final int ACTIVE = 1;
    private static final int WAITING = 2;
    private static final int COMMITTED = 3;
    private static final int ABORTED = 4;

    private static final int VERDICT_COMMITTED = 1;
    private static final int VERDICT_ABORTED = 2;

    private static final int BLOCKS = 64;
    private static final int BLOCK_BYTES = 512;
    private static final int BLOCK_WORDS = 64;
    private static final int HALF_BLOCKS = 31;
    private static final int HALF_BYTES = HALF_BLOCKS * BLOCK_BYTES;
    private static final int RECORDS_FOR_CHECKPOINT = 48;
    private static final int PIECE_BYTES = 64;

    /** The dearest image is a CHECKPOINT: a STATE, 16 rows of VALUES and two more, below 1,500 bytes. */
    private static final int MOST_IMAGE = 2048;
    /** No STATE is longer than 197 bytes. */
    private static final int MOST_STATE = 256;

    private final int versions;
    private final int kept;
    private final int patience;
    private final Replica[] replicas;
    private final Session[] sessions;
    private final Network network;
    private final Bytes view;

    public SnapCluster(int replicas, int versions, int kept, int patience) {
        int count = Math.max(3, Math.min(9, replicas));
        this.versions = Math.max(1, Math.min(MOST_VERSIONS, versions));
        this.kept = Math.max(1, Math.min(MOST_KEPT, kept));
        this.patience = Math.max(2, Math.min(40, patience));
        this.view = new Bytes(MOST_IMAGE);
        this.network = new Network();
        this.sessions = new Session[SESSIONS];
        for (int s = 0; s < SESSIONS; s++) {
            this.sessions[s] = new Session();
        }
        // One replica acts at a time, so that all of them share the rows in which bytes are made.
        Bytes payload = new Bytes(MOST_IMAGE);
        Bytes image = new Bytes(MOST_IMAGE);
        this.replicas = new Replica[count];
        for (int r = 0; r < count; r++) {
            Store store = new Store(this.versions, this.kept);
            Journal journal = new Journal(image);
            Replica replica = new Replica(r, count, this.patience, store, journal);
            replica.connect(this.network, this.sessions, payload);
            this.replicas[r] = replica;
        }
    }

    public boolean beginAt(int session, int replica, boolean onlyReads) {
        Session one = sessionNumber(session);
        Replica home = upNumber(replica);
        if (one == null || home == null || one.what == ACTIVE || one.what == WAITING) {
            return false;
        }
        one.begin(replica, home.store.index, onlyReads);
        return true;
    }

    public int readKey(int session, int key) throws IllegalArgumentException, IllegalStateException {
        Session one = sessionNumber(session);
        if (one == null || !isKey(key)) {
            throw new IllegalArgumentException();
        }
        if (one.what != ACTIVE) {
            throw new IllegalStateException();
        }
        Replica home = upNumber(one.home);
        if (home == null || one.snapshot < home.store.horizon) {
            one.end(ABORTED);
            throw new IllegalStateException();
        }
        return one.read(key, home.store);
    }

    public boolean writeKey(int session, int key, int value) {
        Session one = sessionNumber(session);
        if (one == null || !isKey(key) || one.what != ACTIVE || one.onlyReads) {
            return false;
        }
        one.write(key, value);
        return true;
    }

    public int commitIt(int session) {
        Session one = sessionNumber(session);
        if (one == null || one.what != ACTIVE) {
            return NONE;
        }
        if (one.writes == 0) {
            one.end(COMMITTED);
            return one.what;
        }
        Replica home = upNumber(one.home);
        one.ask(session);
        if (home != null) {
            home.waiting.add(one.request);
        }
        return one.what;
    }

    public boolean giveUp(int session) {
        Session one = sessionNumber(session);
        if (one == null || one.what != ACTIVE) {
            return false;
        }
        one.end(ABORTED);
        return true;
    }

    public int retryAt(int session, int replica) {
        Session one = sessionNumber(session);
        Replica home = upNumber(replica);
        if (one == null || home == null || one.what != WAITING) {
            return NONE;
        }
        one.home = replica;
        if (home.store.seqs[session] == one.seq) {
            one.endBy(home.store.verdicts[session]);
        } else {
            home.waiting.add(one.request);
        }
        return one.what;
    }

    public int tickOf(int replica) {
        Replica one = upNumber(replica);
        if (one == null) {
            return NONE;
        }
        one.tick();
        return network.count;
    }

    public int deliverAt(int i) {
        Frame frame = network.take(i);
        if (frame == null) {
            return NONE;
        }
        // A CHECK tells every single bit that is the other one, so that no SPOILT frame is ever right.
        if (frame.isSpoilt()) {
            network.spoiltCame++;
            return 0;
        }
        int kind = frame.kind;
        Replica receiver = upNumber(frame.receiver);
        if (receiver != null) {
            receiver.receive(frame);
        }
        return kind;
    }

    public boolean loseAt(int i) {
        return network.take(i) != null;
    }

    public boolean doubleAt(int i) {
        Frame frame = network.look(i);
        if (frame == null || network.count >= MOST_FRAMES) {
            return false;
        }
        network.repeat(frame);
        return true;
    }

    public boolean spoilAt(int i, int k, int bit) {
        Frame frame = network.look(i);
        if (frame == null || frame.isSpoilt() || k < 0 || bit < 0 || bit > 7) {
            return false;
        }
        frame.writeTo(view);
        if (k >= view.length) {
            return false;
        }
        frame.spoiltByte = k;
        frame.spoiltBit = bit;
        return true;
    }

    public boolean turnTo(int replica, boolean up) {
        Replica one = replicaNumber(replica);
        if (one == null || one.up == up) {
            return false;
        }
        if (up) {
            one.comeUp();
        } else {
            one.goDown();
        }
        return true;
    }

    public boolean crashAfter(int replica, int n) {
        Replica one = upNumber(replica);
        if (one == null || n > MOST_WRITES_AHEAD) {
            return false;
        }
        one.journal.crashDue = n < 0 ? NONE : n;
        return true;
    }

    public int replicaOf(int replica, int what) {
        Replica one = replicaNumber(replica);
        if (one == null) {
            return NONE;
        }
        if (what == 0) {
            return one.up ? 1 : 0;
        }
        return one.up ? one.tell(what) : NONE;
    }

    public int journalOf(int replica, int what) {
        Replica one = replicaNumber(replica);
        if (one == null || (!one.up && what < 4)) {
            return NONE;
        }
        return one.journal.tell(what);
    }

    public long blockOf(int replica, int b, int k) {
        Replica one = replicaNumber(replica);
        if (one == null || b < 0 || b >= BLOCKS || k < 0 || k >= BLOCK_WORDS) {
            return 0L;
        }
        return one.journal.disk[b * BLOCK_WORDS + k];
    }

    public long frameOf(int i, int k) {
        Frame frame = network.look(i);
        if (frame == null || k < 0 || k >= MOST_IMAGE / 8) {
            return 0L;
        }
        frame.writeTo(view);
        long word = 0L;
        for (int at = 8 * k; at < 8 * k + 8; at++) {
            int change = at == frame.spoiltByte ? 1 << frame.spoiltBit : 0;
            word = word << 8 | (view.byteAt(at) ^ change);
        }
        return word;
    }

    public int valueAt(int replica, int key, int index) throws IndexOutOfBoundsException {
        Replica one = upNumber(replica);
        if (one == null || !isKey(key) || index < one.store.horizon || index > one.store.index) {
            throw new IndexOutOfBoundsException();
        }
        return one.store.valueOf(key, index);
    }

    public int slotOf(int replica, int slot, int what) {
        Replica one = upNumber(replica);
        Request request = one == null ? null : one.store.requestOf(slot);
        return request == null ? NONE : request.tell(what);
    }

    public int knownOf(int replica, int session, boolean verdict) {
        Replica one = upNumber(replica);
        if (one == null || sessionNumber(session) == null) {
            return NONE;
        }
        return verdict ? one.store.verdicts[session] : one.store.seqs[session];
    }

    public int sessionOf(int session, int what) {
        Session one = sessionNumber(session);
        return one == null ? NONE : one.tell(what);
    }

    public int messageOf(int i, int what) {
        Frame frame = network.look(i);
        if (frame == null) {
            return NONE;
        }
        if (what == 8) {
            frame.writeTo(view);
            return view.length;
        }
        return frame.tell(what);
    }

    public int lookAt(int which) {
        switch (which) {
            case 0:
                return replicas.length;
            case 1:
                return versions;
            case 2:
                return kept;
            case 3:
                return network.count;
            case 4:
                return network.sent;
            case 5:
                return network.lost;
            case 6:
                return greatestIndex();
            case 7:
                return waitingSessions();
            case 8:
                return patience;
            case 9:
                return network.spoiltCame;
            default:
                return NONE;
        }
    }

    private int greatestIndex() {
        int greatest = 0;
        for (int r = 0; r < replicas.length; r++) {
            if (replicas[r].up) {
                greatest = Math.max(greatest, replicas[r].store.index);
            }
        }
        return greatest;
    }

    private int waitingSessions() {
        int count = 0;
        for (int s = 0; s < SESSIONS; s++) {
            if (sessions[s].what == WAITING) {
                count++;
            }
        }
        return count;
    }

    private static boolean isKey(int key) {
        return key >= 0 && key < KEYS;
    }

    /** A set of small numbers has bit k for number k. */
    private static boolean isIn(int number, int set) {
        return (set >> number & 1) == 1;
    }

    private Session sessionNumber(int session) {
        return session >= 0 && session < SESSIONS ? sessions[session] : null;
    }

    private Replica replicaNumber(int replica) {
        return replica >= 0 && replica < replicas.length ? replicas[replica] : null;
    }

    private Replica upNumber(int replica) {
        Replica one = replicaNumber(replica);
        return one != null && one.up ? one : null;
    }

    /** A row of bytes that is written from its beginning and can be read again from there. */
    private static final class Bytes {
        private final byte[] row;
        private int length;
        private int next;

        Bytes(int most) {
            row = new byte[most];
        }

        void clear() {
            length = 0;
            next = 0;
        }

        void put(int value) {
            if (length < row.length) {
                row[length] = (byte) value;
                length++;
            }
        }

        void putU(int number) {
            int rest = number;
            for (int group = 0; group < 4 && rest > 127; group++) {
                put(rest & 127 | 128);
                rest = rest >>> 7;
            }
            put(rest);
        }

        void putTwo(int number) {
            put(number >>> 8);
            put(number);
        }

        void putFour(int number) {
            for (int shift = 24; shift >= 0; shift -= 8) {
                put(number >>> shift);
            }
        }

        void putAll(byte[] from, int start, int end) {
            for (int i = Math.max(0, start); i < end && i < from.length; i++) {
                put(from[i]);
            }
        }

        /** Puts the CHECK of all bytes from one on. */
        void putCheck(int from) {
            int check = -1;
            for (int i = from; i < length; i++) {
                check = checkStep(check, byteAt(i));
            }
            for (int shift = 0; shift < 32; shift += 8) {
                put(~check >>> shift);
            }
        }

        static int checkStep(int check, int value) {
            int c = check ^ value;
            for (int bit = 0; bit < 8; bit++) {
                c = (c & 1) == 1 ? c >>> 1 ^ 0xEDB88320 : c >>> 1;
            }
            return c;
        }

        /** 0 where there is none: what lies behind the bytes of an image is 0. */
        int byteAt(int i) {
            return i >= 0 && i < length ? row[i] & 255 : 0;
        }

        int take() {
            int value = byteAt(next);
            next++;
            return value;
        }

        int takeU() {
            int number = 0;
            for (int shift = 0; shift < 35; shift += 7) {
                int group = take();
                number |= (group & 127) << shift;
                if (group < 128) {
                    break;
                }
            }
            return number;
        }

        int takeTwo() {
            int high = take();
            return high << 8 | take();
        }

        int takeFour() {
            int number = 0;
            for (int i = 0; i < 4; i++) {
                number = number << 8 | take();
            }
            return number;
        }

        byte[] copy() {
            byte[] bytes = new byte[length];
            System.arraycopy(row, 0, bytes, 0, length);
            return bytes;
        }
    }

    /** A REQUEST. It never changes, so that replicas and frames hold the same one. */
    private static final class Request {
        private final int session;
        private final int seq;
        private final int snapshot;
        private final int reads;
        private final int writes;
        private final int[] values;

        Request(int session, int seq, int snapshot, int reads, int writes, int[] values) {
            this.session = session;
            this.seq = seq;
            this.snapshot = snapshot;
            this.reads = reads;
            this.writes = writes;
            this.values = values;
        }

        static Request takeFrom(Bytes in) {
            int session = in.take() & SESSIONS - 1;
            int seq = in.takeU();
            int snapshot = in.takeU();
            int reads = in.takeTwo();
            int writes = in.takeTwo();
            int[] values = new int[KEYS];
            for (int key = 0; key < KEYS; key++) {
                if (isIn(key, writes)) {
                    values[key] = in.takeFour();
                }
            }
            return new Request(session, seq, snapshot, reads, writes, values);
        }

        void writeTo(Bytes out) {
            out.put(session);
            out.putU(seq);
            out.putU(snapshot);
            out.putTwo(reads);
            out.putTwo(writes);
            for (int key = 0; key < KEYS; key++) {
                if (isIn(key, writes)) {
                    out.putFour(values[key]);
                }
            }
        }

        boolean isLike(Request other) {
            return session == other.session && seq == other.seq;
        }

        int tell(int what) {
            switch (what) {
                case 0:
                    return session;
                case 1:
                    return seq;
                case 2:
                    return snapshot;
                case 3:
                    return reads;
                case 4:
                    return writes;
                default:
                    return NONE;
            }
        }
    }

    /** The STATE of a replica, with the VALUES from HORIZON on and the REQUESTS that are kept. */
    private static final class Store {
        private static final int ROWS = MOST_VERSIONS + 1;

        private final int versions;
        private final int mostKept;
        private final int[] seqs = new int[SESSIONS];
        private final int[] verdicts = new int[SESSIONS];
        /** What was WRITTEN at INDEX, at INDEX - 1, and so on. */
        private final int[] written = new int[MOST_VERSIONS];
        private final int[] history = new int[ROWS * KEYS];
        private final Request[] requests = new Request[MOST_KEPT];
        private int index;
        private int horizon;
        private int keptCount;

        Store(int versions, int mostKept) {
            this.versions = versions;
            this.mostKept = mostKept;
        }

        void forget() {
            index = 0;
            horizon = 0;
            keptCount = 0;
            for (int s = 0; s < SESSIONS; s++) {
                seqs[s] = 0;
                verdicts[s] = 0;
            }
            for (int v = 0; v < MOST_VERSIONS; v++) {
                written[v] = 0;
            }
            for (int key = 0; key < KEYS; key++) {
                history[key] = 0;
            }
        }

        private static int rowOf(int index) {
            return Math.floorMod(index, ROWS) * KEYS;
        }

        int valueOf(int key, int index) {
            return history[rowOf(index) + key];
        }

        Request requestOf(int slot) {
            boolean isKept = slot <= index && slot > base();
            return isKept ? requests[Math.floorMod(slot, MOST_KEPT)] : null;
        }

        /** Where no REQUEST is kept this is BASE, since the first one behind BASE is kept. */
        int base() {
            return index - keptCount;
        }

        boolean isNew(Request request) {
            return request.seq > seqs[request.session];
        }

        void learn(Request request) {
            int wrote = 0;
            System.arraycopy(history, rowOf(index), history, rowOf(index + 1), KEYS);
            if (isNew(request)) {
                boolean fails = isBelated(request);
                wrote = fails ? 0 : request.writes;
                seqs[request.session] = request.seq;
                verdicts[request.session] = fails ? VERDICT_ABORTED : VERDICT_COMMITTED;
            }
            index++;
            writeValues(request, wrote);
            for (int v = versions - 1; v > 0; v--) {
                written[v] = written[v - 1];
            }
            written[0] = wrote;
            horizon = Math.max(horizon, index - versions);
            requests[Math.floorMod(index, MOST_KEPT)] = request;
            keptCount = Math.min(keptCount + 1, mostKept);
        }

        /** Looks at WRITTEN as it is ahead of the slot that is being applied. */
        private boolean isBelated(Request request) {
            if (request.snapshot < index - versions) {
                return true;
            }
            for (int v = 0; v < versions; v++) {
                if (index - v > request.snapshot && (written[v] & request.reads) != 0) {
                    return true;
                }
            }
            return false;
        }

        private void writeValues(Request request, int wrote) {
            int row = rowOf(index);
            for (int key = 0; key < KEYS; key++) {
                if (isIn(key, wrote)) {
                    history[row + key] = request.values[key];
                }
            }
        }

        void writeTo(Bytes out) {
            out.putU(index);
            int row = rowOf(index);
            for (int key = 0; key < KEYS; key++) {
                out.putFour(history[row + key]);
            }
            for (int s = 0; s < SESSIONS; s++) {
                out.putU(seqs[s]);
                out.put(verdicts[s]);
            }
            for (int v = 0; v < versions; v++) {
                out.putTwo(written[v]);
            }
        }

        void writeValuesTo(Bytes out, int index) {
            int row = rowOf(index);
            for (int key = 0; key < KEYS; key++) {
                out.putFour(history[row + key]);
            }
        }

        void takeFrom(Bytes in) {
            index = in.takeU();
            horizon = index;
            keptCount = 0;
            takeValuesFrom(in);
            for (int s = 0; s < SESSIONS; s++) {
                seqs[s] = in.takeU();
                verdicts[s] = in.take();
            }
            for (int v = 0; v < versions; v++) {
                written[v] = in.takeTwo();
            }
        }

        /** Takes the VALUES at HORIZON. */
        private void takeValuesFrom(Bytes in) {
            int row = rowOf(horizon);
            for (int key = 0; key < KEYS; key++) {
                history[row + key] = in.takeFour();
            }
        }

        void takeOlderFrom(Bytes in) {
            // One row more than that would lie over the row of INDEX.
            if (index - horizon < versions) {
                horizon--;
                takeValuesFrom(in);
            }
        }
    }

    /** A disk with the RECORDS on it, and the crash that is due on it. */
    private static final class Journal {
        private static final int MARK_FIRST = 74;
        private static final int MARK_SECOND = 49;
        private static final int HEAD_CHECKED = 8;

        /** Eight bytes each, the first one highest, as they are asked for. */
        private final long[] disk = new long[BLOCKS * BLOCK_WORDS];
        /** What is to be written next. */
        private final Bytes image;
        private int imageRecords;
        private int imageUsed;
        private int blocksWritten;
        private int crashDue = NONE;
        private int records;
        private int used;
        private int generation = 1;
        private int half;

        Journal(Bytes image) {
            this.image = image;
            makeHead(1, 0);
            place(1, BLOCK_BYTES);
        }

        int tell(int what) {
            switch (what) {
                case 0:
                    return records;
                case 1:
                    return used;
                case 2:
                    return generation;
                case 3:
                    return half;
                case 4:
                    return blocksWritten;
                case 5:
                    return crashDue;
                default:
                    return NONE;
            }
        }

        void startImage() {
            image.clear();
            imageRecords = 0;
        }

        void addRecord(Bytes payload) {
            int from = image.length;
            image.put(payload.length);
            image.put(payload.length >>> 8);
            image.putAll(payload.row, 0, payload.length);
            image.putCheck(from);
            if ((payload.length & 1) == 1) {
                image.put(0);
            }
            imageRecords++;
            imageUsed = image.length;
        }

        /** Writes the image behind the RECORDS; false if the crash came ahead of its end. */
        boolean writeNote() {
            int start = startOf(half) + used;
            closeImage(HALF_BYTES - used);
            int last = (start + image.length - 1) / BLOCK_BYTES;
            for (int block = last; block >= start / BLOCK_BYTES; block--) {
                if (crashes()) {
                    return false;
                }
                place(block, start);
            }
            used += imageUsed;
            records += imageRecords;
            return true;
        }

        /** Writes the image as the other HALF, which does not count yet; false if the crash came. */
        boolean writeHalf() {
            int start = startOf(1 - half);
            closeImage(HALF_BYTES);
            int last = (start + image.length - 1) / BLOCK_BYTES;
            for (int block = start / BLOCK_BYTES; block <= last; block++) {
                if (crashes()) {
                    return false;
                }
                place(block, start);
            }
            return true;
        }

        /** Makes an image of a HEAD; what is known of the RECORDS of the last image stays. */
        void makeHead(int generation, int half) {
            image.clear();
            image.put(MARK_FIRST);
            image.put(MARK_SECOND);
            image.put(half);
            image.put(0);
            for (int shift = 0; shift < 32; shift += 8) {
                image.put(generation >>> shift);
            }
            image.putCheck(0);
        }

        /** Writes the image of the next HEAD: the HALF written last counts; false if the crash came. */
        boolean writeHead() {
            if (crashes()) {
                return false;
            }
            generation++;
            half = 1 - half;
            used = imageUsed;
            records = imageRecords;
            int block = generation & 1;
            place(block, block * BLOCK_BYTES);
            return true;
        }

        private void closeImage(int room) {
            // RECORDS and HALVES have an even number of bytes: there is room for both zeros or for none.
            if (image.length + 2 <= room) {
                image.put(0);
                image.put(0);
            }
        }

        private static int startOf(int half) {
            return (2 + half * HALF_BLOCKS) * BLOCK_BYTES;
        }

        /** To be asked ahead of each write of a block: true if the crash comes in its place. */
        private boolean crashes() {
            if (crashDue == 0) {
                crashDue = NONE;
                return true;
            }
            if (crashDue > 0) {
                crashDue--;
            }
            blocksWritten++;
            return false;
        }

        /** Puts a block of the image that begins at a byte of the disk; what is ahead of that stays. */
        private void place(int block, int start) {
            int end = (block + 1) * BLOCK_BYTES;
            for (int at = Math.max(start, block * BLOCK_BYTES); at < end; at++) {
                setByte(at, image.byteAt(at - start));
            }
        }

        private void setByte(int at, int value) {
            int word = at >> 3;
            if (word >= 0 && word < disk.length) {
                int shift = 56 - 8 * (at & 7);
                disk[word] = disk[word] & ~(255L << shift) | (long) value << shift;
            }
        }

        private int byteAt(int at) {
            int word = at >> 3;
            if (word < 0 || word >= disk.length) {
                return 0;
            }
            return (int) (disk[word] >>> 56 - 8 * (at & 7)) & 255;
        }

        private int twoLowFirst(int at) {
            return byteAt(at) | byteAt(at + 1) << 8;
        }

        private int fourLowFirst(int at) {
            return twoLowFirst(at) | twoLowFirst(at + 2) << 16;
        }

        /** Goes to the beginning of the HALF that counts. */
        void open() {
            int inFirst = generationIn(0);
            int inSecond = generationIn(1);
            int block = inFirst > inSecond ? 0 : 1;
            generation = Math.max(inFirst, inSecond);
            half = byteAt(block * BLOCK_BYTES + 2) & 1;
            records = 0;
            used = 0;
        }

        /** 0 if the HEAD in the block is not RIGHT. */
        private int generationIn(int block) {
            int at = block * BLOCK_BYTES;
            boolean marked = byteAt(at) == MARK_FIRST && byteAt(at + 1) == MARK_SECOND
                && byteAt(at + 2) <= 1 && byteAt(at + 3) == 0;
            int found = fourLowFirst(at + 4);
            return marked && found > 0 && isChecked(at, HEAD_CHECKED) ? found : 0;
        }

        private boolean isChecked(int at, int count) {
            int check = -1;
            for (int i = 0; i < count; i++) {
                check = Bytes.checkStep(check, byteAt(at + i));
            }
            return ~check == fourLowFirst(at + count);
        }

        /** Reads the next RECORD; false if there is none such. */
        boolean readNext(Bytes payload) {
            int room = HALF_BYTES - used;
            if (room < 2) {
                return false;
            }
            int start = startOf(half) + used;
            int count = twoLowFirst(start);
            int size = 2 + count + 4 + (count & 1);
            if (count < 1 || size > room || !isChecked(start, 2 + count)) {
                return false;
            }
            payload.clear();
            for (int i = 0; i < count; i++) {
                payload.put(byteAt(start + 2 + i));
            }
            used += size;
            records++;
            return true;
        }
    }

    /** A FRAME as it was sent, and which of its bits is SPOILT. Its bytes are made when asked for. */
    private static final class Frame {
        private static final int MARK = 165;

        private int kind;
        private int sender;
        private int receiver;
        private int ballot;
        private int slot;
        private Request request;
        private int told;
        /** All bytes of the STATE that this is a PIECE of. */
        private byte[] state;
        private int piece = NONE;
        private int spoiltByte = NONE;
        private int spoiltBit;

        void address(int kind, int sender, int receiver) {
            this.kind = kind;
            this.sender = sender;
            this.receiver = receiver;
            request = null;
            told = 0;
            state = null;
            piece = NONE;
            spoiltByte = NONE;
        }

        void say(int ballot, int slot) {
            this.ballot = ballot;
            this.slot = slot;
        }

        void carry(Request request, int told) {
            this.request = request;
            this.told = told;
        }

        void carryPiece(byte[] state, int piece) {
            this.state = state;
            this.piece = piece;
        }

        void copy(Frame other) {
            address(other.kind, other.sender, other.receiver);
            say(other.ballot, other.slot);
            carry(other.request, other.told);
            carryPiece(other.state, other.piece);
            spoiltByte = other.spoiltByte;
            spoiltBit = other.spoiltBit;
        }

        boolean isSpoilt() {
            return spoiltByte != NONE;
        }

        static int piecesOf(byte[] state) {
            return (state.length + PIECE_BYTES - 1) / PIECE_BYTES;
        }

        int pieceStart() {
            return piece * PIECE_BYTES;
        }

        int pieceEnd() {
            return state == null ? 0 : Math.min(state.length, pieceStart() + PIECE_BYTES);
        }

        void writeTo(Bytes out) {
            out.clear();
            out.put(MARK);
            out.put(kind);
            out.put(16 * sender + receiver);
            out.putU(ballot);
            out.putU(slot);
            if (kind == PROMISE) {
                out.put(request == null ? 0 : 1);
                if (request != null) {
                    out.putU(told);
                }
            }
            if (request != null) {
                request.writeTo(out);
            }
            if (state != null) {
                out.put(piece);
                out.put(piecesOf(state));
                out.put(pieceEnd() - pieceStart());
                out.putAll(state, pieceStart(), pieceEnd());
            }
            out.putCheck(0);
        }

        int tell(int what) {
            switch (what) {
                case 0:
                    return kind;
                case 1:
                    return sender;
                case 2:
                    return receiver;
                case 3:
                    return ballot;
                case 4:
                    return slot;
                case 5:
                    return request == null ? NONE : request.session;
                case 6:
                    return told;
                case 7:
                    return isSpoilt() ? 1 : 0;
                case 9:
                    return piece;
                default:
                    return NONE;
            }
        }
    }

    /** The FRAMES in FLIGHT. Those behind the last one lie ready to be used again. */
    private static final class Network {
        private final Frame[] flight = new Frame[MOST_FRAMES];
        /** The one that came last: what is sent while it is read must not lie over it. */
        private Frame taken = new Frame();
        /** Holds what is sent when there is no room. */
        private final Frame nowhere = new Frame();
        private int count;
        private int sent;
        private int lost;
        private int spoiltCame;

        Network() {
            for (int i = 0; i < MOST_FRAMES; i++) {
                flight[i] = new Frame();
            }
        }

        Frame look(int i) {
            return i >= 0 && i < count ? flight[i] : null;
        }

        Frame take(int i) {
            Frame frame = look(i);
            if (frame == null) {
                return null;
            }
            for (int at = i; at + 1 < count; at++) {
                flight[at] = flight[at + 1];
            }
            count--;
            flight[count] = taken;
            taken = frame;
            return frame;
        }

        Frame send() {
            sent++;
            if (count >= MOST_FRAMES) {
                lost++;
                return nowhere;
            }
            count++;
            return flight[count - 1];
        }

        void repeat(Frame frame) {
            if (count < MOST_FRAMES) {
                flight[count].copy(frame);
                count++;
            }
        }
    }

    /** A SESSION with its latest TRANSACTION. */
    private static final class Session {
        private final int[] values = new int[KEYS];
        private int what = IDLE;
        private int seq;
        private int home = NONE;
        private int snapshot = NONE;
        private int reads;
        private int writes;
        private boolean onlyReads;
        private Request request;

        void begin(int home, int snapshot, boolean onlyReads) {
            what = ACTIVE;
            this.home = home;
            this.snapshot = snapshot;
            this.onlyReads = onlyReads;
            reads = 0;
            writes = 0;
        }

        int read(int key, Store store) {
            if (isIn(key, writes)) {
                return values[key];
            }
            reads |= 1 << key;
            return store.valueOf(key, snapshot);
        }

        void write(int key, int value) {
            writes |= 1 << key;
            values[key] = value;
        }

        void ask(int number) {
            what = WAITING;
            seq++;
            request = new Request(number, seq, snapshot, reads, writes, values.clone());
        }

        void end(int what) {
            this.what = what;
            home = NONE;
        }

        void endBy(int verdict) {
            end(verdict == VERDICT_COMMITTED ? COMMITTED : ABORTED);
        }

        int tell(int asked) {
            switch (asked) {
                case 0:
                    return what;
                case 1:
                    return seq;
                case 2:
                    return home;
                case 3:
                    return snapshot;
                case 4:
                    return reads;
                case 5:
                    return writes;
                default:
                    return NONE;
            }
        }
    }

    /** The WAITING REQUESTS of a replica. */
    private static final class Queue {
        private final Request[] row = new Request[MOST_WAITING];
        private int count;

        void clear() {
            count = 0;
        }

        /** Does nothing if there is no room, or one like it waits already. */
        void add(Request request) {
            if (request == null || count >= MOST_WAITING) {
                return;
            }
            for (int i = 0; i < count; i++) {
                if (row[i].isLike(request)) {
                    return;
                }
            }
            row[count] = request;
            count++;
        }

        Request first() {
            return count > 0 ? row[0] : null;
        }

        /** The first one that is not decided, which is the first of all then; null if there is none. */
        Request advance(Store store) {
            for (int i = 0; i < count; i++) {
                if (store.isNew(row[i])) {
                    dropFirst(i);
                    return row[0];
                }
            }
            return null;
        }

        private void dropFirst(int many) {
            for (int i = many; i < count; i++) {
                row[i - many] = row[i];
            }
            count -= many;
        }

        void dropDecided(Store store) {
            int left = 0;
            for (int i = 0; i < count; i++) {
                if (store.isNew(row[i])) {
                    row[left] = row[i];
                    left++;
                }
            }
            count = left;
        }
    }

    /** The PIECES of a STATE that are gathered, and the INDEX that they are gathered for. */
    private static final class Pieces {
        private final byte[] row = new byte[MOST_STATE];
        private int index = NONE;
        private int which;
        private int length;

        void drop() {
            index = NONE;
            which = 0;
            length = 0;
        }

        /** True when all of them are here. */
        boolean gather(Frame frame) {
            if (frame.state == null || frame.state.length > MOST_STATE) {
                return false;
            }
            if (index < frame.slot) {
                drop();
                index = frame.slot;
            }
            int start = frame.pieceStart();
            int end = frame.pieceEnd();
            for (int i = Math.max(0, start); i < end; i++) {
                row[i] = frame.state[i];
            }
            which |= 1 << frame.piece;
            length = Math.max(length, end);
            return which == (1 << Frame.piecesOf(frame.state)) - 1;
        }
    }

    /** The ROLE of a replica, and what belongs to it. */
    private static final class Office {
        private int role = FOLLOWER;
        private int ballot;
        private int answered;
        private Request proposed;
        /** Of all that were told to a CANDIDATE as ACCEPTED, the one with the greatest BALLOT. */
        private Request told;
        private int toldBallot;

        void follow() {
            role = FOLLOWER;
            ballot = 0;
            dropProposed();
            told = null;
            toldBallot = 0;
        }

        void followAbove(int greater) {
            if (ballot < greater) {
                follow();
            }
        }

        void stand(int ballot, int self) {
            follow();
            role = CANDIDATE;
            this.ballot = ballot;
            answered = 1 << self;
        }

        void lead() {
            role = LEADER;
            answered = 0;
        }

        void propose(Request request, int self) {
            proposed = request;
            answered = 1 << self;
        }

        void dropProposed() {
            proposed = null;
            answered = 0;
        }

        void hear(Request request, int ballotOfThat) {
            if (request != null && (told == null || ballotOfThat > toldBallot)) {
                told = request;
                toldBallot = ballotOfThat;
            }
        }

        boolean is(int role, int ballot) {
            return this.role == role && this.ballot == ballot;
        }

        boolean hasAnswer(int replica) {
            return isIn(replica, answered);
        }

        /** True if more than half have answered with this one. */
        boolean answer(int replica, int replicas) {
            answered |= 1 << replica;
            return 2 * Integer.bitCount(answered) > replicas;
        }
    }

    /** A REPLICA: what it does by a TICK and by a FRAME. */
    private static final class Replica {
        private final int number;
        private final int replicas;
        private final int patience;
        private final Store store;
        private final Journal journal;
        private final Queue waiting = new Queue();
        private final Pieces pieces = new Pieces();
        private final Office office = new Office();
        private Network network;
        private Session[] sessions;
        /** What is to be noted, or was read. */
        private Bytes payload;
        private boolean up = true;
        private int promised;
        private Request accepted;
        private int acceptedBallot;
        private int seen;
        private int quiet;

        Replica(int number, int replicas, int patience, Store store, Journal journal) {
            this.number = number;
            this.replicas = replicas;
            this.patience = patience;
            this.store = store;
            this.journal = journal;
        }

        void connect(Network network, Session[] sessions, Bytes payload) {
            this.network = network;
            this.sessions = sessions;
            this.payload = payload;
        }

        int tell(int what) {
            switch (what) {
                case 1:
                    return store.index;
                case 2:
                    return store.horizon;
                case 3:
                    return store.base();
                case 4:
                    return promised;
                case 5:
                    return accepted == null ? NONE : acceptedBallot;
                case 6:
                    return office.role;
                case 7:
                    return office.ballot;
                case 8:
                    return office.answered;
                case 9:
                    return seen;
                case 10:
                    return waiting.count;
                case 11:
                    return office.proposed == null ? NONE : office.proposed.session;
                case 12:
                    return quiet;
                case 13:
                    return pieces.index;
                case 14:
                    return pieces.which;
                default:
                    return NONE;
            }
        }

        void goDown() {
            up = false;
            for (int s = 0; s < SESSIONS; s++) {
                if (sessions[s].what == ACTIVE && sessions[s].home == number) {
                    sessions[s].end(ABORTED);
                }
            }
        }

        void comeUp() {
            forget();
            journal.open();
            for (int n = 0; n < HALF_BYTES && journal.readNext(payload); n++) {
                replay();
            }
            seen = promised;
            journal.crashDue = NONE;
            up = true;
            checkpointIfDue();
        }

        private void forget() {
            store.forget();
            waiting.clear();
            pieces.drop();
            office.follow();
            promised = 0;
            accepted = null;
            acceptedBallot = 0;
            quiet = 0;
        }

        private void replay() {
            switch (payload.take()) {
                case NOTED_PROMISE:
                    promised = payload.takeU();
                    break;
                case NOTED_ACCEPTED:
                    replayAccepted();
                    break;
                case NOTED_LEARNT:
                    store.learn(Request.takeFrom(payload));
                    accepted = null;
                    break;
                case NOTED_STATE:
                    store.takeFrom(payload);
                    accepted = null;
                    break;
                case NOTED_VALUES:
                    store.takeOlderFrom(payload);
                    break;
                default:
                    break;
            }
        }

        private void replayAccepted() {
            promised = payload.takeU();
            int slot = payload.takeU();
            if (slot == store.index + 1) {
                accepted = Request.takeFrom(payload);
                acceptedBallot = promised;
            }
        }

        /** NOTES the payload; false if the replica went down by it. */
        private boolean note() {
            journal.startImage();
            journal.addRecord(payload);
            if (journal.writeNote()) {
                return true;
            }
            goDown();
            return false;
        }

        /** To be called as soon as what was noted is so; false if the replica went down by it. */
        private boolean checkpointIfDue() {
            if (journal.records < RECORDS_FOR_CHECKPOINT) {
                return true;
            }
            journal.startImage();
            startPayload(NOTED_STATE);
            store.writeTo(payload);
            journal.addRecord(payload);
            for (int index = store.index - 1; index >= store.horizon; index--) {
                startPayload(NOTED_VALUES);
                store.writeValuesTo(payload, index);
                journal.addRecord(payload);
            }
            if (accepted != null) {
                startPayload(NOTED_ACCEPTED);
                payload.putU(acceptedBallot);
                payload.putU(store.index + 1);
                accepted.writeTo(payload);
                journal.addRecord(payload);
            }
            startPayload(NOTED_PROMISE);
            payload.putU(promised);
            journal.addRecord(payload);
            if (journal.writeHalf()) {
                journal.makeHead(journal.generation + 1, 1 - journal.half);
                if (journal.writeHead()) {
                    return true;
                }
            }
            goDown();
            return false;
        }

        private void startPayload(int kind) {
            payload.clear();
            payload.put(kind);
        }

        private boolean promise(int ballot) {
            startPayload(NOTED_PROMISE);
            payload.putU(ballot);
            if (!note()) {
                return false;
            }
            promised = ballot;
            return checkpointIfDue();
        }

        private boolean accept(Request request, int ballot) {
            startPayload(NOTED_ACCEPTED);
            payload.putU(ballot);
            payload.putU(store.index + 1);
            request.writeTo(payload);
            if (!note()) {
                return false;
            }
            promised = ballot;
            accepted = request;
            acceptedBallot = ballot;
            return checkpointIfDue();
        }

        private boolean learn(Request request) {
            startPayload(NOTED_LEARNT);
            request.writeTo(payload);
            if (!note()) {
                return false;
            }
            store.learn(request);
            accepted = null;
            if (!checkpointIfDue()) {
                return false;
            }
            if (office.role == CANDIDATE) {
                office.follow();
            } else {
                office.dropProposed();
            }
            tellAll();
            return true;
        }

        /** What comes behind every new STATE but one that was read from the JOURNAL. */
        private void tellAll() {
            quiet = 0;
            if (pieces.index <= store.index) {
                pieces.drop();
            }
            for (int s = 0; s < SESSIONS; s++) {
                Session one = sessions[s];
                if (one.what == WAITING && one.home == number && one.seq == store.seqs[s]) {
                    one.endBy(store.verdicts[s]);
                }
            }
            waiting.dropDecided(store);
        }

        private Frame sendTo(int receiver, int kind, int ballot, int slot) {
            Frame frame = network.send();
            frame.address(kind, number, receiver);
            frame.say(ballot, slot);
            return frame;
        }

        private void sendToAll(int kind, int ballot, int slot, Request request) {
            for (int receiver = 0; receiver < replicas; receiver++) {
                if (receiver != number) {
                    sendTo(receiver, kind, ballot, slot).carry(request, 0);
                }
            }
        }

        private void askFor(int receiver) {
            sendTo(receiver, ASK, 0, store.index + 1);
        }

        private void deny(int receiver) {
            sendTo(receiver, DENY, promised, 0);
        }

        private void help(int receiver, int slot) {
            Request request = store.requestOf(slot);
            if (request != null) {
                sendTo(receiver, CHOSEN, 0, slot).carry(request, 0);
                return;
            }
            payload.clear();
            store.writeTo(payload);
            byte[] state = payload.copy();
            int count = Frame.piecesOf(state);
            for (int piece = 0; piece < count; piece++) {
                sendTo(receiver, STATE, 0, store.index).carryPiece(state, piece);
            }
        }

        void tick() {
            quiet++;
            if (office.role == LEADER) {
                Request next = office.proposed == null ? waiting.advance(store) : null;
                if (next != null) {
                    propose(next);
                } else if (quiet >= patience) {
                    remind();
                }
            } else if (campaignIsDue()) {
                campaign();
            } else if (office.role == FOLLOWER) {
                tickAsFollower();
            }
        }

        private void remind() {
            quiet = 0;
            if (office.proposed == null) {
                sendToAll(BEAT, office.ballot, store.index, null);
            } else {
                sendToAll(ACCEPT, office.ballot, store.index + 1, office.proposed);
            }
        }

        private boolean campaignIsDue() {
            if (office.role == CANDIDATE) {
                return quiet >= patience;
            }
            return waiting.count > 0 && quiet >= patience + number;
        }

        private void tickAsFollower() {
            if (waiting.count > 0) {
                forward();
            } else if (quiet >= patience) {
                quiet = 0;
                askFor((number + 1) % replicas);
            }
        }

        private void campaign() {
            int above = Math.max(promised, seen);
            int ballot = above - above % replicas + number;
            if (ballot <= above) {
                ballot += replicas;
            }
            if (!promise(ballot)) {
                return;
            }
            office.stand(ballot, number);
            office.hear(accepted, acceptedBallot);
            quiet = 0;
            sendToAll(PREPARE, ballot, store.index + 1, null);
        }

        private void forward() {
            int leader = seen % replicas;
            if (seen > 0 && leader != number) {
                sendTo(leader, FORWARD, 0, 0).carry(waiting.first(), 0);
            }
        }

        /** PROPOSES a REQUEST; null stands for none. */
        private void propose(Request request) {
            if (request == null || !accept(request, office.ballot)) {
                return;
            }
            office.propose(request, number);
            quiet = 0;
            sendToAll(ACCEPT, office.ballot, store.index + 1, request);
        }

        void receive(Frame frame) {
            seen = Math.max(seen, frame.ballot);
            switch (frame.kind) {
                case PREPARE:
                    onPrepare(frame);
                    break;
                case PROMISE:
                    propose(afterPromise(frame));
                    break;
                case ACCEPT:
                    onAccept(frame);
                    break;
                case ACCEPTED:
                    propose(afterAccepted(frame));
                    break;
                case CHOSEN:
                    onChosen(frame);
                    break;
                case ASK:
                    if (frame.slot <= store.index) {
                        help(frame.sender, frame.slot);
                    }
                    break;
                case DENY:
                    office.followAbove(frame.ballot);
                    break;
                case STATE:
                    onState(frame);
                    break;
                case FORWARD:
                    onForward(frame);
                    break;
                case BEAT:
                    onBeat(frame);
                    break;
                default:
                    break;
            }
        }

        private void onPrepare(Frame frame) {
            if (frame.slot <= store.index) {
                help(frame.sender, frame.slot);
                return;
            }
            if (frame.ballot < promised) {
                deny(frame.sender);
                return;
            }
            if (frame.ballot > promised && !promise(frame.ballot)) {
                return;
            }
            office.follow();
            Frame answer = sendTo(frame.sender, PROMISE, frame.ballot, frame.slot);
            if (accepted != null && frame.slot == store.index + 1) {
                answer.carry(accepted, acceptedBallot);
            }
        }

        /** What is to be PROPOSED then, or null. */
        private Request afterPromise(Frame frame) {
            if (!office.is(CANDIDATE, frame.ballot) || frame.slot != store.index + 1
                || office.hasAnswer(frame.sender)) {
                return null;
            }
            office.hear(frame.request, frame.told);
            if (!office.answer(frame.sender, replicas)) {
                return null;
            }
            office.lead();
            quiet = 0;
            return office.told != null ? office.told : waiting.advance(store);
        }

        private void onAccept(Frame frame) {
            if (frame.slot <= store.index) {
                help(frame.sender, frame.slot);
                return;
            }
            if (frame.slot > store.index + 1) {
                askFor(frame.sender);
                return;
            }
            if (frame.ballot < promised) {
                deny(frame.sender);
                return;
            }
            if (frame.request == null || !accept(frame.request, frame.ballot)) {
                return;
            }
            if (!office.is(LEADER, frame.ballot)) {
                office.follow();
            }
            quiet = 0;
            sendTo(frame.sender, ACCEPTED, frame.ballot, frame.slot);
        }

        /** What is to be PROPOSED then, or null. */
        private Request afterAccepted(Frame frame) {
            if (!office.is(LEADER, frame.ballot) || office.proposed == null
                || frame.slot != store.index + 1 || office.hasAnswer(frame.sender)) {
                return null;
            }
            if (!office.answer(frame.sender, replicas)) {
                return null;
            }
            Request chosen = office.proposed;
            sendToAll(CHOSEN, 0, frame.slot, chosen);
            return learn(chosen) ? waiting.advance(store) : null;
        }

        private void onChosen(Frame frame) {
            if (frame.slot > store.index + 1) {
                askFor(frame.sender);
            } else if (frame.slot == store.index + 1 && frame.request != null) {
                learn(frame.request);
            }
        }

        private void onState(Frame frame) {
            if (frame.slot <= store.index || frame.slot < pieces.index || !pieces.gather(frame)) {
                return;
            }
            startPayload(NOTED_STATE);
            payload.putAll(pieces.row, 0, pieces.length);
            if (!note()) {
                return;
            }
            payload.take();
            store.takeFrom(payload);
            accepted = null;
            if (!checkpointIfDue()) {
                return;
            }
            office.follow();
            tellAll();
        }

        private void onForward(Frame frame) {
            if (frame.request != null && store.isNew(frame.request)) {
                waiting.add(frame.request);
            }
        }

        private void onBeat(Frame frame) {
            if (frame.ballot < promised) {
                deny(frame.sender);
                return;
            }
            quiet = 0;
            office.followAbove(frame.ballot);
            if (frame.slot > store.index) {
                askFor(frame.sender);
            } else if (frame.slot < store.index) {
                help(frame.sender, frame.slot + 1);
            }
        }
    }
}
