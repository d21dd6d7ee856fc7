import java.io.ByteArrayOutputStream;
import java.util.ArrayList;
import java.util.Arrays;
import java.util.List;
import java.util.TreeMap;
import java.util.TreeSet;
import java.util.zip.CRC32;

/**
 * The document once more, written for plainness and apart from the program: frames are only bytes and
 * are read again when they come, the journal is only a disk and is read again for every note. Random
 * runs compare the program with this.
 */
final class ClusterModel {

    static final int NONE = -1;

    /** The replica went down in the middle of what it did. */
    private static final class Crash extends RuntimeException {
        private static final long serialVersionUID = 1L;
    }

    /** Bytes that are being written. */
    private static final class Out {
        private final ByteArrayOutputStream bytes = new ByteArrayOutputStream();

        Out b(int value) {
            bytes.write(value);
            return this;
        }

        Out u(int number) {
            int rest = number;
            while (rest >= 128) {
                b(128 + rest % 128);
                rest /= 128;
            }
            return b(rest);
        }

        Out two(int number) {
            return b(number >> 8).b(number);
        }

        Out four(int number) {
            return two(number >> 16).two(number);
        }

        Out all(byte[] more) {
            bytes.writeBytes(more);
            return this;
        }

        Out check() {
            byte[] sum = lowFirst((int) checkOf(done()), 4);
            return all(sum);
        }

        byte[] done() {
            return bytes.toByteArray();
        }
    }

    /** Bytes that are being read. */
    private static final class In {
        private final byte[] bytes;
        private int at;

        In(byte[] bytes) {
            this.bytes = bytes;
        }

        int b() {
            return bytes[at++] & 255;
        }

        int u() {
            int group = b();
            return group < 128 ? group : group - 128 + 128 * u();
        }

        int two() {
            return b() * 256 + b();
        }

        int four() {
            return two() * 65536 + two();
        }

        byte[] some(int count) {
            at += count;
            return Arrays.copyOfRange(bytes, at - count, at);
        }
    }

    static long checkOf(byte[] bytes) {
        CRC32 crc = new CRC32();
        crc.update(bytes);
        return crc.getValue();
    }

    private static byte[] lowFirst(int number, int count) {
        byte[] bytes = new byte[count];
        for (int i = 0; i < count; i++) {
            bytes[i] = (byte) (number >> 8 * i);
        }
        return bytes;
    }

    private record Req(int session, int seq, int snapshot, int reads, int writes, TreeMap<Integer, Integer> values) {
        static Req read(In in) {
            int session = in.b();
            int seq = in.u();
            int snapshot = in.u();
            int reads = in.two();
            int writes = in.two();
            TreeMap<Integer, Integer> values = new TreeMap<>();
            for (int key = 0; key < 16; key++) {
                if ((writes & 1 << key) != 0) {
                    values.put(key, in.four());
                }
            }
            return new Req(session, seq, snapshot, reads, writes, values);
        }

        byte[] bytes() {
            Out out = new Out().b(session).u(seq).u(snapshot).two(reads).two(writes);
            for (int value : values.values()) {
                out.four(value);
            }
            return out.done();
        }

        boolean like(Req other) {
            return session == other.session && seq == other.seq;
        }
    }

    private static final class State {
        int index;
        int[] values = new int[16];
        int[] seqs = new int[16];
        int[] verdicts = new int[16];
        TreeMap<Integer, Integer> written = new TreeMap<>();

        void apply(Req req, int v) {
            index++;
            int i = index;
            int here = 0;
            if (req.seq > seqs[req.session]) {
                boolean clash = req.snapshot < i - 1 - v;
                for (int at : written.tailMap(req.snapshot, false).keySet()) {
                    clash |= (written.get(at) & req.reads) != 0;
                }
                if (!clash) {
                    req.values.forEach((key, value) -> values[key] = value);
                    here = req.writes;
                }
                seqs[req.session] = req.seq;
                verdicts[req.session] = clash ? 2 : 1;
            }
            written.put(i, here);
            written.headMap(i - v, true).clear();
        }

        byte[] bytes(int v) {
            Out out = new Out().u(index);
            for (int value : values) {
                out.four(value);
            }
            for (int s = 0; s < 16; s++) {
                out.u(seqs[s]).b(verdicts[s]);
            }
            for (int i = index; i > index - v; i--) {
                out.two(written.getOrDefault(i, 0));
            }
            return out.done();
        }

        static State read(In in, int v) {
            State state = new State();
            state.index = in.u();
            for (int key = 0; key < 16; key++) {
                state.values[key] = in.four();
            }
            for (int s = 0; s < 16; s++) {
                state.seqs[s] = in.u();
                state.verdicts[s] = in.b();
            }
            for (int i = state.index; i > state.index - v; i--) {
                state.written.put(i, in.two());
            }
            return state;
        }
    }

    /** What a replica has as long as it is up. */
    private static final class Memory {
        State state = new State();
        TreeMap<Integer, int[]> history = new TreeMap<>();
        TreeMap<Integer, Req> kept = new TreeMap<>();
        int base;
        int promised;
        Req accepted;
        int acceptedBallot;
        int role;
        int ballot;
        TreeSet<Integer> answered = new TreeSet<>();
        Req proposed;
        Req told;
        int toldBallot;
        int seen;
        List<Req> waiting = new ArrayList<>();
        int quiet;
        int gatherIndex = NONE;
        TreeMap<Integer, byte[]> gathered = new TreeMap<>();

        Memory() {
            history.put(0, new int[16]);
        }

        void follow() {
            role = 0;
            ballot = 0;
            answered.clear();
            proposed = null;
            told = null;
            toldBallot = 0;
        }

        void install(State fresh) {
            state = fresh;
            history.clear();
            history.put(fresh.index, fresh.values.clone());
            base = fresh.index;
            kept.clear();
            accepted = null;
        }
    }

    private static final class Disk {
        byte[][] blocks = new byte[64][512];
        int written;
        int due = NONE;

        Disk() {
            System.arraycopy(head(1, 0), 0, blocks[1], 0, 12);
        }

        static byte[] head(int generation, int half) {
            return new Out().b(74).b(49).b(half).b(0).all(lowFirst(generation, 4)).check().done();
        }

        int generationOf(int block) {
            byte[] first = Arrays.copyOf(blocks[block], 12);
            int generation = (first[4] & 255) + 256 * (first[5] & 255) + 65536 * (first[6] & 255) + (first[7] << 24);
            boolean right = Arrays.equals(first, head(generation, 0)) || Arrays.equals(first, head(generation, 1));
            return right && generation > 0 ? generation : 0;
        }

        int generation() {
            return Math.max(generationOf(0), generationOf(1));
        }

        int half() {
            return blocks[generationOf(0) > generationOf(1) ? 0 : 1][2];
        }

        byte[] bytesOf(int half) {
            Out out = new Out();
            for (int b = 2 + 31 * half; b < 33 + 31 * half; b++) {
                out.all(blocks[b]);
            }
            return out.done();
        }

        List<byte[]> records() {
            List<byte[]> found = new ArrayList<>();
            byte[] all = bytesOf(half());
            int at = 0;
            while (at + 2 <= all.length) {
                int length = (all[at] & 255) + 256 * (all[at + 1] & 255);
                int size = 6 + length + length % 2;
                if (length < 1 || at + size > all.length) {
                    break;
                }
                byte[] body = Arrays.copyOfRange(all, at, at + 2 + length);
                byte[] sum = Arrays.copyOfRange(all, at + 2 + length, at + 6 + length);
                if (!Arrays.equals(sum, lowFirst((int) checkOf(body), 4))) {
                    break;
                }
                found.add(Arrays.copyOfRange(body, 2, body.length));
                at += size;
            }
            return found;
        }

        static byte[] wrap(byte[] payload) {
            Out out = new Out().all(lowFirst(payload.length, 2)).all(payload).check();
            return payload.length % 2 == 1 ? out.b(0).done() : out.done();
        }

        int bytesUsed() {
            int used = 0;
            for (byte[] one : records()) {
                used += wrap(one).length;
            }
            return used;
        }
    }

    private static final class Sess {
        int what;
        int seq;
        int home = NONE;
        int snapshot = NONE;
        int reads;
        TreeMap<Integer, Integer> writes = new TreeMap<>();
        boolean onlyReads;
        Req req;

        int writeSet() {
            int set = 0;
            for (int key : writes.keySet()) {
                set += 1 << key;
            }
            return set;
        }
    }

    private static final class Flying {
        byte[] sent;
        byte[] now;

        boolean spoilt() {
            return !Arrays.equals(sent, now);
        }
    }

    /** A frame that was read. */
    private static final class Seen {
        int kind;
        int q;
        int to;
        int b;
        int s;
        Req req;
        int told;
        int piece = NONE;
        int pieces;
        byte[] bytes;

        Seen(byte[] frame) {
            In in = new In(frame);
            in.b();
            kind = in.b();
            int ends = in.b();
            q = ends / 16;
            to = ends % 16;
            b = in.u();
            s = in.u();
            boolean tells = kind == 2 && in.b() == 1;
            if (tells) {
                told = in.u();
            }
            if (tells || kind == 3 || kind == 5 || kind == 9) {
                req = Req.read(in);
            }
            if (kind == 8) {
                piece = in.b();
                pieces = in.b();
                bytes = in.some(in.b());
            }
        }
    }

    private final int n;
    private final int v;
    private final int l;
    private final int t;
    private final Memory[] up;
    private final Disk[] disks;
    private final Sess[] sessions = new Sess[16];
    private final List<Flying> flight = new ArrayList<>();
    private int sent;
    private int lost;
    private int spoiltCame;

    ClusterModel(int replicas, int versions, int kept, int patience) {
        n = Math.min(9, Math.max(3, replicas));
        v = Math.min(16, Math.max(1, versions));
        l = Math.min(32, Math.max(1, kept));
        t = Math.min(40, Math.max(2, patience));
        up = new Memory[n];
        disks = new Disk[n];
        for (int r = 0; r < n; r++) {
            up[r] = new Memory();
            disks[r] = new Disk();
        }
        for (int s = 0; s < 16; s++) {
            sessions[s] = new Sess();
        }
    }

    private boolean isSession(int s) {
        return s >= 0 && s <= 15;
    }

    private boolean isUp(int r) {
        return r >= 0 && r < n && up[r] != null;
    }

    boolean beginAt(int session, int replica, boolean onlyReads) {
        if (!isSession(session) || !isUp(replica)) {
            return false;
        }
        Sess one = sessions[session];
        if (one.what == 1 || one.what == 2) {
            return false;
        }
        one.what = 1;
        one.home = replica;
        one.snapshot = up[replica].state.index;
        one.reads = 0;
        one.writes.clear();
        one.onlyReads = onlyReads;
        return true;
    }

    int readKey(int session, int key) {
        if (!isSession(session) || key < 0 || key > 15) {
            throw new IllegalArgumentException();
        }
        Sess one = sessions[session];
        if (one.what != 1) {
            throw new IllegalStateException();
        }
        Memory home = up[one.home];
        if (one.snapshot < home.history.firstKey()) {
            one.what = 4;
            throw new IllegalStateException();
        }
        if (one.writes.containsKey(key)) {
            return one.writes.get(key);
        }
        one.reads |= 1 << key;
        return home.history.get(one.snapshot)[key];
    }

    boolean writeKey(int session, int key, int value) {
        if (!isSession(session) || key < 0 || key > 15 || sessions[session].what != 1 || sessions[session].onlyReads) {
            return false;
        }
        sessions[session].writes.put(key, value);
        return true;
    }

    int commitIt(int session) {
        if (!isSession(session) || sessions[session].what != 1) {
            return NONE;
        }
        Sess one = sessions[session];
        if (one.writes.isEmpty()) {
            one.what = 3;
            return 3;
        }
        one.what = 2;
        one.seq++;
        one.req = new Req(session, one.seq, one.snapshot, one.reads, one.writeSet(), new TreeMap<>(one.writes));
        if (up[one.home].waiting.size() < 8) {
            up[one.home].waiting.add(one.req);
        }
        return 2;
    }

    boolean giveUp(int session) {
        if (!isSession(session) || sessions[session].what != 1) {
            return false;
        }
        sessions[session].what = 4;
        return true;
    }

    int retryAt(int session, int replica) {
        if (!isSession(session) || !isUp(replica) || sessions[session].what != 2) {
            return NONE;
        }
        Sess one = sessions[session];
        one.home = replica;
        Memory m = up[replica];
        if (m.state.seqs[session] == one.seq) {
            one.what = m.state.verdicts[session] + 2;
        } else {
            enqueue(m, one.req);
        }
        return one.what;
    }

    private static void enqueue(Memory m, Req req) {
        if (m.waiting.size() < 8 && m.waiting.stream().noneMatch(req::like)) {
            m.waiting.add(req);
        }
    }

    int tickOf(int replica) {
        if (!isUp(replica)) {
            return NONE;
        }
        try {
            tick(replica, up[replica]);
        } catch (Crash crash) {
            goDown(replica);
        }
        return flight.size();
    }

    int deliverAt(int i) {
        if (i < 0 || i >= flight.size()) {
            return NONE;
        }
        Flying f = flight.remove(i);
        int length = f.now.length;
        byte[] sum = Arrays.copyOfRange(f.now, length - 4, length);
        boolean right = Arrays.equals(sum, lowFirst((int) checkOf(Arrays.copyOf(f.now, length - 4)), 4));
        if (f.spoilt()) {
            if (right) {
                throw new AssertionError("a spoilt frame has a right check");
            }
            spoiltCame++;
            return 0;
        }
        Seen seen = new Seen(f.now);
        if (isUp(seen.to)) {
            try {
                come(seen.to, up[seen.to], seen);
            } catch (Crash crash) {
                goDown(seen.to);
            }
        }
        return seen.kind;
    }

    boolean loseAt(int i) {
        if (i < 0 || i >= flight.size()) {
            return false;
        }
        flight.remove(i);
        return true;
    }

    boolean doubleAt(int i) {
        if (i < 0 || i >= flight.size() || flight.size() == 200) {
            return false;
        }
        Flying twin = new Flying();
        twin.sent = flight.get(i).sent;
        twin.now = flight.get(i).now;
        flight.add(twin);
        return true;
    }

    boolean spoilAt(int i, int k, int bit) {
        if (i < 0 || i >= flight.size() || bit < 0 || bit > 7) {
            return false;
        }
        Flying f = flight.get(i);
        if (f.spoilt() || k < 0 || k >= f.sent.length) {
            return false;
        }
        f.now = f.sent.clone();
        f.now[k] ^= (byte) (1 << bit);
        return true;
    }

    boolean turnTo(int replica, boolean wanted) {
        if (replica < 0 || replica >= n || isUp(replica) == wanted) {
            return false;
        }
        if (wanted) {
            comeUp(replica);
        } else {
            goDown(replica);
        }
        return true;
    }

    boolean crashAfter(int replica, int writes) {
        if (!isUp(replica) || writes > 1000) {
            return false;
        }
        disks[replica].due = Math.max(NONE, writes);
        return true;
    }

    private void goDown(int r) {
        up[r] = null;
        for (Sess one : sessions) {
            if (one.what == 1 && one.home == r) {
                one.what = 4;
            }
        }
    }

    private void comeUp(int r) {
        Memory m = new Memory();
        up[r] = m;
        for (byte[] payload : disks[r].records()) {
            In in = new In(payload);
            switch (in.b()) {
                case 1 -> m.promised = in.u();
                case 2 -> {
                    m.promised = in.u();
                    if (in.u() == m.state.index + 1) {
                        m.accepted = Req.read(in);
                        m.acceptedBallot = m.promised;
                    }
                }
                case 3 -> apply(m, Req.read(in));
                case 4 -> m.install(State.read(in, v));
                case 5 -> {
                    int[] values = new int[16];
                    for (int key = 0; key < 16; key++) {
                        values[key] = in.four();
                    }
                    m.history.put(m.history.firstKey() - 1, values);
                }
                default -> throw new AssertionError("a record of no kind");
            }
        }
        m.seen = m.promised;
        disks[r].due = NONE;
        checkpoint(r, m);
    }

    private void apply(Memory m, Req req) {
        m.state.apply(req, v);
        m.history.put(m.state.index, m.state.values.clone());
        m.history.headMap(m.state.index - v, false).clear();
        m.kept.put(m.state.index, req);
        if (m.kept.size() > l) {
            m.kept.pollFirstEntry();
        }
        m.accepted = null;
    }

    private void write(int r, int block, byte[] content) {
        Disk disk = disks[r];
        if (disk.due == 0) {
            disk.due = NONE;
            throw new Crash();
        }
        if (disk.due > 0) {
            disk.due--;
        }
        disk.written++;
        disk.blocks[block] = content;
    }

    private void note(int r, byte[] payload) {
        Disk disk = disks[r];
        int used = disk.bytesUsed();
        byte[] wrapped = Disk.wrap(payload);
        byte[] all = disk.bytesOf(disk.half());
        System.arraycopy(wrapped, 0, all, used, wrapped.length);
        int end = Math.min(all.length, used + wrapped.length + 2);
        int last = (end - 1) / 512;
        Arrays.fill(all, used + wrapped.length, 512 * (last + 1), (byte) 0);
        for (int b = last; b >= used / 512; b--) {
            write(r, 2 + 31 * disk.half() + b, Arrays.copyOfRange(all, 512 * b, 512 * b + 512));
        }
    }

    private void checkpoint(int r, Memory m) {
        Disk disk = disks[r];
        if (disk.records().size() < 48) {
            return;
        }
        Out out = new Out();
        out.all(Disk.wrap(new Out().b(4).all(m.state.bytes(v)).done()));
        for (int i = m.state.index - 1; i >= m.history.firstKey(); i--) {
            Out values = new Out().b(5);
            for (int value : m.history.get(i)) {
                values.four(value);
            }
            out.all(Disk.wrap(values.done()));
        }
        if (m.accepted != null) {
            out.all(Disk.wrap(acceptedNote(m)));
        }
        out.all(Disk.wrap(new Out().b(1).u(m.promised).done())).two(0);
        byte[] all = out.done();
        int blocks = (all.length + 511) / 512;
        int half = 1 - disk.half();
        int generation = disk.generation() + 1;
        for (int b = 0; b < blocks; b++) {
            byte[] part = Arrays.copyOfRange(all, 512 * b, 512 * b + 512);
            write(r, 2 + 31 * half + b, part);
        }
        write(r, generation % 2, Arrays.copyOf(Disk.head(generation, half), 512));
    }

    private byte[] acceptedNote(Memory m) {
        return new Out().b(2).u(m.acceptedBallot).u(m.state.index + 1).all(m.accepted.bytes()).done();
    }

    private Out frame(int kind, int from, int to, int b, int s) {
        return new Out().b(165).b(kind).b(16 * from + to).u(b).u(s);
    }

    private void send(Out frame) {
        sent++;
        if (flight.size() == 200) {
            lost++;
            return;
        }
        Flying f = new Flying();
        f.sent = frame.check().done();
        f.now = f.sent;
        flight.add(f);
    }

    private void sendAll(int kind, int from, int b, int s, Req req) {
        for (int to = 0; to < n; to++) {
            if (to != from) {
                Out out = frame(kind, from, to, b, s);
                send(req == null ? out : out.all(req.bytes()));
            }
        }
    }

    private void campaign(int r, Memory m) {
        int b = Math.max(m.promised, m.seen) + 1;
        while (b % n != r) {
            b++;
        }
        promise(r, m, b);
        m.follow();
        m.role = 1;
        m.ballot = b;
        m.answered.add(r);
        m.told = m.accepted;
        m.toldBallot = m.acceptedBallot;
        m.quiet = 0;
        sendAll(1, r, b, m.state.index + 1, null);
    }

    private void promise(int r, Memory m, int b) {
        note(r, new Out().b(1).u(b).done());
        m.promised = b;
        checkpoint(r, m);
    }

    private void tick(int r, Memory m) {
        m.quiet++;
        boolean late = m.quiet >= t;
        if (m.role == 2 && m.proposed != null) {
            if (late) {
                m.quiet = 0;
                sendAll(3, r, m.ballot, m.state.index + 1, m.proposed);
            }
        } else if (m.role == 2) {
            if (!proposeNext(r, m) && late) {
                m.quiet = 0;
                sendAll(10, r, m.ballot, m.state.index, null);
            }
        } else if (m.role == 1) {
            if (late) {
                campaign(r, m);
            }
        } else if (!m.waiting.isEmpty()) {
            if (m.quiet >= t + r) {
                campaign(r, m);
            } else if (m.seen != 0 && m.seen % n != r) {
                send(frame(9, r, m.seen % n, 0, 0).all(m.waiting.get(0).bytes()));
            }
        } else if (late) {
            m.quiet = 0;
            send(frame(6, r, (r + 1) % n, 0, m.state.index + 1));
        }
    }

    private boolean proposeNext(int r, Memory m) {
        for (int i = 0; i < m.waiting.size(); i++) {
            Req req = m.waiting.get(i);
            if (req.seq > m.state.seqs[req.session]) {
                m.waiting.subList(0, i).clear();
                propose(r, m, req);
                return true;
            }
        }
        return false;
    }

    private void propose(int r, Memory m, Req req) {
        accept(r, m, req, m.ballot);
        m.proposed = req;
        m.answered.clear();
        m.answered.add(r);
        m.quiet = 0;
        sendAll(3, r, m.ballot, m.state.index + 1, req);
    }

    private void accept(int r, Memory m, Req req, int b) {
        note(r, new Out().b(2).u(b).u(m.state.index + 1).all(req.bytes()).done());
        m.accepted = req;
        m.acceptedBallot = b;
        m.promised = b;
        checkpoint(r, m);
    }

    private void help(int r, Memory m, int q, int s) {
        if (m.kept.containsKey(s)) {
            send(frame(5, r, q, 0, s).all(m.kept.get(s).bytes()));
            return;
        }
        byte[] all = m.state.bytes(v);
        int pieces = (all.length + 63) / 64;
        for (int p = 0; p < pieces; p++) {
            byte[] part = Arrays.copyOfRange(all, 64 * p, Math.min(all.length, 64 * p + 64));
            send(frame(8, r, q, 0, m.state.index).b(p).b(pieces).b(part.length).all(part));
        }
    }

    private void ask(int r, Memory m, int q) {
        send(frame(6, r, q, 0, m.state.index + 1));
    }

    private void deny(int r, Memory m, int q) {
        send(frame(7, r, q, m.promised, 0));
    }

    private void come(int r, Memory m, Seen f) {
        m.seen = Math.max(m.seen, f.b);
        int next = m.state.index + 1;
        switch (f.kind) {
            case 1 -> prepare(r, m, f, next);
            case 2 -> promised(r, m, f, next);
            case 3 -> acceptThat(r, m, f, next);
            case 4 -> acceptedThat(r, m, f, next);
            case 5 -> {
                if (f.s == next) {
                    learn(r, m, f.req);
                } else if (f.s > next) {
                    ask(r, m, f.q);
                }
            }
            case 6 -> {
                if (f.s < next) {
                    help(r, m, f.q, f.s);
                }
            }
            case 7 -> {
                if (m.role != 0 && m.ballot < f.b) {
                    m.follow();
                }
            }
            case 8 -> piece(r, m, f);
            case 9 -> {
                if (f.req.seq > m.state.seqs[f.req.session]) {
                    enqueue(m, f.req);
                }
            }
            case 10 -> beat(r, m, f);
            default -> throw new AssertionError("a frame of no kind");
        }
    }

    private void prepare(int r, Memory m, Seen f, int next) {
        if (f.s < next) {
            help(r, m, f.q, f.s);
        } else if (f.b >= m.promised) {
            if (f.b > m.promised) {
                promise(r, m, f.b);
            }
            m.follow();
            Out out = frame(2, r, f.q, f.b, f.s);
            if (f.s == next && m.accepted != null) {
                send(out.b(1).u(m.acceptedBallot).all(m.accepted.bytes()));
            } else {
                send(out.b(0));
            }
        } else {
            deny(r, m, f.q);
        }
    }

    private void promised(int r, Memory m, Seen f, int next) {
        if (m.role != 1 || m.ballot != f.b || f.s != next || !m.answered.add(f.q)) {
            return;
        }
        if (f.req != null && (m.told == null || f.told > m.toldBallot)) {
            m.told = f.req;
            m.toldBallot = f.told;
        }
        if (m.answered.size() * 2 > n) {
            m.role = 2;
            m.quiet = 0;
            m.answered.clear();
            if (m.told != null) {
                propose(r, m, m.told);
            } else {
                proposeNext(r, m);
            }
        }
    }

    private void acceptThat(int r, Memory m, Seen f, int next) {
        if (f.s < next) {
            help(r, m, f.q, f.s);
        } else if (f.s > next) {
            ask(r, m, f.q);
        } else if (f.b >= m.promised) {
            accept(r, m, f.req, f.b);
            if (m.role == 1 || (m.role == 2 && m.ballot != f.b)) {
                m.follow();
            }
            m.quiet = 0;
            send(frame(4, r, f.q, f.b, f.s));
        } else {
            deny(r, m, f.q);
        }
    }

    private void acceptedThat(int r, Memory m, Seen f, int next) {
        if (m.role != 2 || m.ballot != f.b || m.proposed == null || f.s != next || !m.answered.add(f.q)) {
            return;
        }
        if (m.answered.size() * 2 > n) {
            sendAll(5, r, 0, f.s, m.proposed);
            learn(r, m, m.proposed);
            proposeNext(r, m);
        }
    }

    private void learn(int r, Memory m, Req req) {
        note(r, new Out().b(3).all(req.bytes()).done());
        apply(m, req);
        checkpoint(r, m);
        if (m.role == 1) {
            m.follow();
        }
        m.proposed = null;
        m.answered.clear();
        tell(r, m);
    }

    private void tell(int r, Memory m) {
        m.quiet = 0;
        if (m.gatherIndex <= m.state.index) {
            m.gatherIndex = NONE;
            m.gathered.clear();
        }
        for (int s = 0; s < 16; s++) {
            Sess one = sessions[s];
            if (one.what == 2 && one.home == r && one.seq == m.state.seqs[s]) {
                one.what = 2 + m.state.verdicts[s];
            }
        }
        m.waiting.removeIf(req -> req.seq <= m.state.seqs[req.session]);
    }

    private void piece(int r, Memory m, Seen f) {
        if (f.s <= m.state.index || f.s < m.gatherIndex) {
            return;
        }
        if (f.s > m.gatherIndex) {
            m.gathered.clear();
            m.gatherIndex = f.s;
        }
        m.gathered.putIfAbsent(f.piece, f.bytes);
        if (m.gathered.size() < f.pieces) {
            return;
        }
        Out out = new Out();
        for (byte[] part : m.gathered.values()) {
            out.all(part);
        }
        byte[] all = out.done();
        note(r, new Out().b(4).all(all).done());
        m.install(State.read(new In(all), v));
        checkpoint(r, m);
        m.follow();
        tell(r, m);
    }

    private void beat(int r, Memory m, Seen f) {
        if (f.b < m.promised) {
            deny(r, m, f.q);
            return;
        }
        m.quiet = 0;
        if (m.role != 0 && m.ballot < f.b) {
            m.follow();
        }
        if (f.s > m.state.index) {
            ask(r, m, f.q);
        } else if (f.s < m.state.index) {
            help(r, m, f.q, f.s + 1);
        }
    }

    int replicaOf(int replica, int what) {
        if (replica < 0 || replica >= n || what < 0 || what > 14) {
            return NONE;
        }
        if (what == 0) {
            return isUp(replica) ? 1 : 0;
        }
        if (!isUp(replica)) {
            return NONE;
        }
        Memory m = up[replica];
        int[] all = {1, m.state.index, m.history.firstKey(), m.kept.isEmpty() ? m.base : m.kept.firstKey() - 1,
            m.promised, m.accepted == null ? NONE : m.acceptedBallot, m.role, m.ballot, bits(m.answered), m.seen,
            m.waiting.size(), m.proposed == null ? NONE : m.proposed.session, m.quiet, m.gatherIndex,
            bits(m.gathered.keySet())};
        return all[what];
    }

    private static int bits(Iterable<Integer> which) {
        int bits = 0;
        for (int one : which) {
            bits |= 1 << one;
        }
        return bits;
    }

    int journalOf(int replica, int what) {
        if (replica < 0 || replica >= n || what < 0 || what > 5 || (what < 4 && !isUp(replica))) {
            return NONE;
        }
        Disk disk = disks[replica];
        return switch (what) {
            case 0 -> disk.records().size();
            case 1 -> disk.bytesUsed();
            case 2 -> disk.generation();
            case 3 -> disk.half();
            case 4 -> disk.written;
            default -> disk.due;
        };
    }

    long blockOf(int replica, int b, int k) {
        return replica >= 0 && replica < n && b >= 0 && b < 64 ? word(disks[replica].blocks[b], k) : 0;
    }

    long frameOf(int i, int k) {
        return i >= 0 && i < flight.size() ? word(flight.get(i).now, k) : 0;
    }

    private static long word(byte[] bytes, int k) {
        long word = 0;
        for (long at = 8L * k; at < 8L * k + 8; at++) {
            word = word * 256 + (at >= 0 && at < bytes.length ? bytes[(int) at] & 255 : 0);
        }
        return word;
    }

    int valueAt(int replica, int key, int index) {
        if (!isUp(replica) || key < 0 || key > 15 || !up[replica].history.containsKey(index)) {
            throw new IndexOutOfBoundsException();
        }
        return up[replica].history.get(index)[key];
    }

    int slotOf(int replica, int slot, int what) {
        if (!isUp(replica) || what < 0 || what > 4 || !up[replica].kept.containsKey(slot)) {
            return NONE;
        }
        Req req = up[replica].kept.get(slot);
        return new int[] {req.session, req.seq, req.snapshot, req.reads, req.writes}[what];
    }

    int knownOf(int replica, int session, boolean verdict) {
        if (!isUp(replica) || !isSession(session)) {
            return NONE;
        }
        State state = up[replica].state;
        return (verdict ? state.verdicts : state.seqs)[session];
    }

    int sessionOf(int session, int what) {
        if (!isSession(session) || what < 0 || what > 5) {
            return NONE;
        }
        Sess one = sessions[session];
        int home = one.what == 1 || one.what == 2 ? one.home : NONE;
        return new int[] {one.what, one.seq, home, one.snapshot, one.reads, one.writeSet()}[what];
    }

    int messageOf(int i, int what) {
        if (i < 0 || i >= flight.size() || what < 0 || what > 9) {
            return NONE;
        }
        Flying f = flight.get(i);
        Seen s = new Seen(f.sent);
        return new int[] {s.kind, s.q, s.to, s.b, s.s, s.req == null ? NONE : s.req.session, s.told,
            f.spoilt() ? 1 : 0, f.sent.length, s.piece}[what];
    }

    int lookAt(int which) {
        int index = 0;
        for (Memory m : up) {
            index = m == null ? index : Math.max(index, m.state.index);
        }
        int waiting = 0;
        for (Sess one : sessions) {
            waiting += one.what == 2 ? 1 : 0;
        }
        int[] all = {n, v, l, flight.size(), sent, lost, index, waiting, t, spoiltCame};
        return which >= 0 && which < all.length ? all[which] : NONE;
    }
}
