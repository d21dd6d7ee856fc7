import java.util.Arrays;

/** Edges of promises 10 to 12, 18, 23 and 24: frames in flight, their bytes, and what is counted. */
final class FlightEdges {

    private static final int NONE = SnapCluster.NONE;
    private static final int LEAST = Integer.MIN_VALUE;
    private static final int MOST = Integer.MAX_VALUE;

    private FlightEdges() {
    }

    /** Three frames fly, of 9 bytes each: 0 asks 1, 1 asks 2, 2 asks 0. */
    private static Cluster threeFly() {
        Cluster x = new Cluster(3, 1, 1, 2);
        for (int r = 0; r < 3; r++) {
            Probe.tick(x, r, 2);
        }
        return x;
    }

    /** So many frames fly: those three, and the first of them again and again. */
    private static Cluster manyFly(int count) {
        Cluster x = threeFly();
        for (int i = 3; i < count; i++) {
            x.doubleAt(0);
        }
        return x;
    }

    // Promise 10: "FRAME i is lost: true; false if there is none such."

    static void promise10NoneFlies(Probe p) {
        p.due("frame 0 of none", new Cluster(3, 1, 1, 2).loseAt(0), false);
    }

    static void promise10NoSuchFrame(Probe p) {
        for (int i : new int[] {-1, 3, 200, LEAST, MOST}) {
            p.due("frame " + i, threeFly().loseAt(i), false);
            p.unchanged("frame " + i, FlightEdges::threeFly, x -> x.loseAt(i));
        }
    }

    static void promise10FirstFrame(Probe p) {
        Cluster x = threeFly();
        p.due("lost", x.loseAt(0), true);
        p.due("frames", x.lookAt(3), 2);
        p.message("the second is the first", x, 0, 6, 1, 2);
        p.message("the third is the second", x, 1, 6, 2, 0);
    }

    static void promise10LastFrame(Probe p) {
        Cluster x = threeFly();
        p.due("lost", x.loseAt(2), true);
        p.due("frames", x.lookAt(3), 2);
        p.message("the first", x, 0, 6, 0, 1);
        p.message("the second", x, 1, 6, 1, 2);
        p.due("none is behind", x.messageOf(2, 0), NONE);
    }

    static void promise10LastOfTwoHundred(Probe p) {
        Cluster x = manyFly(200);
        p.due("frame 200", x.loseAt(200), false);
        p.due("frame 199", x.loseAt(199), true);
        p.due("frames", x.lookAt(3), 199);
    }

    /** One that is lost does not come: a spoilt one is not counted as such. */
    static void promise10SpoiltFrame(Probe p) {
        Cluster x = threeFly();
        x.spoilAt(0, 0, 0);
        p.due("lost", x.loseAt(0), true);
        p.due("spoilt ones that came", x.lookAt(9), 0);
        p.due("lost because there were 200", x.lookAt(5), 0);
    }

    // Promise 11: "FRAME i is in FLIGHT once more, behind all others, as it is: true; false if there is none
    // such, or there are 200."

    static void promise11NoneFlies(Probe p) {
        p.due("frame 0 of none", new Cluster(3, 1, 1, 2).doubleAt(0), false);
    }

    static void promise11NoSuchFrame(Probe p) {
        for (int i : new int[] {-1, 3, 200, LEAST, MOST}) {
            p.due("frame " + i, threeFly().doubleAt(i), false);
            p.unchanged("frame " + i, FlightEdges::threeFly, x -> x.doubleAt(i));
        }
    }

    static void promise11BehindAllOthers(Probe p) {
        for (int i = 0; i < 3; i++) {
            Cluster x = threeFly();
            p.due("doubled", x.doubleAt(i), true);
            p.due("frames", x.lookAt(3), 4);
            p.message("it stays", x, i, 6, i, (i + 1) % 3);
            p.message("its double", x, 3, 6, i, (i + 1) % 3);
        }
    }

    static void promise11HundredAndNinetyNineFly(Probe p) {
        Cluster x = manyFly(199);
        p.due("frames", x.lookAt(3), 199);
        p.due("doubled", x.doubleAt(1), true);
        p.due("frames", x.lookAt(3), 200);
        p.message("its double", x, 199, 6, 1, 2);
    }

    static void promise11TwoHundredFly(Probe p) {
        Cluster x = manyFly(200);
        p.due("frames", x.lookAt(3), 200);
        p.due("doubled", x.doubleAt(1), false);
        p.due("frames", x.lookAt(3), 200);
        p.due("none is lost by that", x.lookAt(5), 0);
        p.due("none is sent by that", x.lookAt(4), 3);
        p.message("the last", x, 199, 6, 0, 1);
    }

    static void promise11SpoiltAsItIs(Probe p) {
        Cluster x = threeFly();
        x.spoilAt(1, 4, 6);
        p.due("doubled", x.doubleAt(1), true);
        p.due("spoilt", x.messageOf(3, 7), 1);
        p.due("the same bytes", Probe.frame(x, 3), Probe.frame(x, 1));
        p.due("it can't be spoilt once more", x.spoilAt(3, 4, 6), false);
        p.due("comes", x.deliverAt(3), 0);
    }

    /** A piece of a state, and what carries a request, are doubled with all that they have. */
    static void promise11AllThatItHas(Probe p) {
        Cluster x = piecesFly(2);
        for (int piece = 0; piece < 2; piece++) {
            x.doubleAt(0);
            p.due("bytes of piece " + piece, Probe.frame(x, 2), Probe.frame(x, 0));
            p.message("piece " + piece, x, 2, 8, 0, 2, 0, 3, NONE, 0, 0, piece == 0 ? 76 : 49, piece);
            x.loseAt(0);
        }
        x.deliverAt(0);
        x.deliverAt(0);
        p.due("the doubles alone came", x.replicaOf(2, 1), 3);
        Probe.write(x, 4, 0, 1, 1);
        x.tickOf(0);
        x.doubleAt(0);
        p.due("bytes of an accept", Probe.frame(x, 2), Probe.frame(x, 0));
        p.due("its session", x.messageOf(2, 5), 4);
    }

    /** The one is spoilt when it is doubled already: the other is as it was. */
    static void promise11SpoiltLater(Probe p) {
        Cluster x = threeFly();
        x.doubleAt(1);
        x.spoilAt(1, 4, 6);
        p.due("the double is not", x.messageOf(3, 7), 0);
        x.spoilAt(3, 2, 1);
        p.due("each has its own bit", Probe.frame(x, 1)[4] * 100 + Probe.frame(x, 3)[2], 65 * 100 + 0x10);
    }

    // Promise 12: "Bit 0 .. 7 (2^bit) of byte k of FRAME i is the other one: true; false if there is none
    // such, or the FRAME is SPOILT."

    static void promise12NoSuchFrame(Probe p) {
        for (int i : new int[] {-1, 3, 200, LEAST, MOST}) {
            p.due("frame " + i, threeFly().spoilAt(i, 0, 0), false);
            p.unchanged("frame " + i, FlightEdges::threeFly, x -> x.spoilAt(i, 0, 0));
        }
        p.due("frame 0 of none", new Cluster(3, 1, 1, 2).spoilAt(0, 0, 0), false);
    }

    static void promise12NoSuchByte(Probe p) {
        for (int k : new int[] {-1, 9, 10, 64, LEAST, MOST}) {
            p.due("byte " + k, threeFly().spoilAt(0, k, 0), false);
            p.unchanged("byte " + k, FlightEdges::threeFly, x -> x.spoilAt(0, k, 0));
        }
    }

    static void promise12NoSuchBit(Probe p) {
        for (int bit : new int[] {-1, 8, 32, LEAST, MOST}) {
            p.due("bit " + bit, threeFly().spoilAt(0, 0, bit), false);
            p.unchanged("bit " + bit, FlightEdges::threeFly, x -> x.spoilAt(0, 0, bit));
        }
    }

    static void promise12FirstAndLastByte(Probe p) {
        for (int k : new int[] {0, 8}) {
            Cluster x = threeFly();
            byte[] wanted = Probe.frame(x, 0);
            wanted[k] ^= 1;
            p.due("byte " + k, x.spoilAt(0, k, 0), true);
            p.due("its bytes", Probe.frame(x, 0), wanted);
        }
    }

    static void promise12FirstAndLastBit(Probe p) {
        for (int bit : new int[] {0, 7}) {
            Cluster x = threeFly();
            byte[] wanted = Probe.frame(x, 2);
            wanted[3] ^= (byte) (1 << bit);
            p.due("bit " + bit, x.spoilAt(2, 3, bit), true);
            p.due("its bytes", Probe.frame(x, 2), wanted);
        }
    }

    /** What counts is the length of that frame: 20 bytes with a request of one key. */
    static void promise12LastByteOfALongerFrame(Probe p) {
        Cluster x = Probe.led(2, 2);
        Probe.write(x, 0, 0, 1, 1);
        x.tickOf(0);
        int length = x.messageOf(0, 8);
        p.due("length", length, 5 + 11 + 4);
        p.due("behind the last byte", x.spoilAt(0, length, 0), false);
        p.due("the last byte", x.spoilAt(0, length - 1, 0), true);
    }

    static void promise12SpoiltAlready(Probe p) {
        Cluster x = threeFly();
        x.spoilAt(0, 4, 3);
        byte[] wanted = Probe.frame(x, 0);
        p.due("the same bit", x.spoilAt(0, 4, 3), false);
        p.due("another bit", x.spoilAt(0, 4, 2), false);
        p.due("another byte", x.spoilAt(0, 0, 0), false);
        p.due("its bytes", Probe.frame(x, 0), wanted);
        p.due("spoilt still", x.messageOf(0, 7), 1);
        p.due("another frame", x.spoilAt(1, 4, 3), true);
    }

    /** A frame that is sent in the place of a spoilt one that is gone is right. */
    static void promise12SpoiltOnesAreGone(Probe p) {
        Cluster x = threeFly();
        for (int i = 0; i < 3; i++) {
            x.spoilAt(i, i, i);
        }
        x.loseAt(0);
        x.deliverAt(0);
        x.loseAt(0);
        Probe.tick(x, 0, 2);
        p.due("right", x.messageOf(0, 7), 0);
        p.due("its bytes", Probe.frame(x, 0), Probe.checked(Probe.bytes(165, 6, 0x01, 0, 1)));
        p.due("comes", x.deliverAt(0), 6);
    }

    /** A frame has nothing of one that flew ahead of it and is gone. */
    static void promise18NothingOfThoseThatAreGone(Probe p) {
        Cluster x = piecesFly(2);
        Probe.lose(x);
        Probe.write(x, 4, 0, 1, 1);
        x.tickOf(0);
        Probe.write(x, 5, 1, 2, 2);
        Probe.tick(x, 1, 3);
        p.come(x, 1, 1, 0);
        p.due("a promise that tells", x.messageOf(Probe.last(x), 6), 3);
        for (int i = 0; i < 3; i++) {
            x.doubleAt(Probe.last(x));
        }
        Probe.lose(x);
        Probe.tick(x, 2, 16);
        p.due("asks", x.lookAt(3), 8);
        for (int i = 0; i < 8; i++) {
            p.due("its bytes", Probe.frame(x, i), Probe.checked(Probe.bytes(165, 6, 0x20, 0, 2)));
            p.message("ask", x, i, 6, 2, 0, 0, 2, NONE, 0, 0, 9, NONE);
        }
    }

    // Promise 18: "Bytes 8 * k .. 8 * k + 7 of FRAME i, as it is (a SPOILT one with its other bit), likewise,
    // 0 where there are none."

    static void promise18NoSuchFrame(Probe p) {
        Cluster x = threeFly();
        for (int i : new int[] {-1, 3, 200, LEAST, MOST}) {
            p.due("frame " + i, x.frameOf(i, 0), 0);
        }
        p.due("frame 0 of none", new Cluster(3, 1, 1, 2).frameOf(0, 0), 0);
    }

    static void promise18NoSuchWord(Probe p) {
        Cluster x = threeFly();
        for (int k : new int[] {-1, 2, 3, 1 << 28, 1 << 29, 1 << 30, LEAST, MOST}) {
            p.due("word " + k, x.frameOf(0, k), 0);
        }
    }

    /** Nine bytes: the second word has one of them, and 0s behind it. */
    static void promise18WordThatIsNotFull(Probe p) {
        Cluster x = threeFly();
        byte[] ask = Probe.checked(Probe.bytes(165, 6, 0x01, 0, 1));
        p.due("the first word", x.frameOf(0, 0), word(ask, 0));
        p.due("the second word", x.frameOf(0, 1), word(ask, 1));
        p.due("its last byte is highest", x.frameOf(0, 1) & 0xFFFFFFFFFFFFFFL, 0);
    }

    private static long word(byte[] row, int k) {
        long word = 0;
        for (byte one : Arrays.copyOfRange(row, 8 * k, 8 * k + 8)) {
            word = word << 8 | one & 255;
        }
        return word;
    }

    /** A frame of 24 bytes: the word behind the last full one has none of them. */
    static void promise18WordThatIsFull(Probe p) {
        Cluster x = Probe.led(2, 2);
        x.beginAt(0, 0, false);
        x.writeKey(0, 0, -1);
        x.writeKey(0, 1, -1);
        x.commitIt(0);
        x.tickOf(0);
        p.due("length", x.messageOf(0, 8), 24);
        byte[] all = Probe.checked(Probe.bytes(165, 3, 1, 3, 2, 0, 1, 1, 0, 0, 0, 3, -1, -1, -1, -1, -1, -1, -1, -1));
        for (int k = 0; k < 3; k++) {
            p.due("word " + k, x.frameOf(0, k), word(all, k));
        }
        p.due("word 3", x.frameOf(0, 3), 0);
    }

    static void promise18SpoiltWithItsOtherBit(Probe p) {
        Cluster x = threeFly();
        long first = x.frameOf(0, 0);
        long second = x.frameOf(0, 1);
        x.spoilAt(0, 8, 7);
        p.due("the first word", x.frameOf(0, 0), first);
        p.due("the second word", x.frameOf(0, 1), second ^ Long.MIN_VALUE);
        x.spoilAt(1, 0, 0);
        p.due("another frame", x.frameOf(1, 0) >>> 56, 164);
        x.spoilAt(2, 7, 0);
        p.due("the last bit of a word", x.frameOf(2, 0) ^ word(Probe.checked(Probe.bytes(165, 6, 0x20, 0, 1)), 0), 1);
    }

    /** "(0 for kinds 5, 6, 8, 9)": no ballot; "(0 for 7, 9)": no slot. */
    static void promise18KindsWithoutBallot(Probe p) {
        Cluster x = Probe.led(2, 1);
        Probe.decideBehind(x);
        Probe.write(x, 4, 2, 4, 4);
        x.tickOf(2);
        p.due("forward", Arrays.copyOf(Probe.frame(x, 0), 6), Probe.bytes(165, 9, 0x20, 0, 0, 4));
        Probe.tick(x, 2, 3);
        p.come(x, 1, 2, 0);
        p.due("chosen", Arrays.copyOf(Probe.frame(x, Probe.last(x)), 6), Probe.bytes(165, 5, 0x02, 0, 2, 7));
        Probe.lose(x);
        Probe.decideBehind(x);
        Probe.tick(x, 2, 2);
        p.message("prepare with 8", x, Probe.last(x), 1, 2, 1, 8, 2);
        p.come(x, 1, 2, 1);
        p.due("state", Arrays.copyOf(Probe.frame(x, Probe.last(x)), 6), Probe.bytes(165, 8, 0x12, 0, 3, 1));
        Probe.tick(x, 1, 2);
        p.due("ask", Arrays.copyOf(Probe.frame(x, Probe.last(x)), 5), Probe.bytes(165, 6, 0x12, 0, 4));
    }

    static void promise18DenyWithoutSlot(Probe p) {
        Cluster x = Probe.led(2, 2);
        Probe.write(x, 5, 2, 1, 1);
        Probe.tick(x, 2, 4);
        Probe.tick(x, 0, 2);
        p.come(x, 10, 0, 2);
        p.due("deny", Probe.frame(x, Probe.last(x)), Probe.checked(Probe.bytes(165, 7, 0x20, 5, 0)));
    }

    /** "for 2 a byte 0, or 1, U of the BALLOT and the REQUEST of what is ACCEPTED" */
    static void promise18PromiseThatTellsNothing(Probe p) {
        Cluster x = Probe.led(2, 2);
        Probe.write(x, 5, 2, 1, 1);
        Probe.tick(x, 2, 4);
        p.come(x, 1, 2, 1);
        p.due("promise", Probe.frame(x, Probe.last(x)), Probe.checked(Probe.bytes(165, 2, 0x12, 5, 2, 0)));
    }

    static void promise18PromiseThatTells(Probe p) {
        Cluster x = Probe.led(2, 2);
        Probe.write(x, 4, 0, 1, 258);
        x.tickOf(0);
        Probe.write(x, 5, 2, 1, 1);
        Probe.tick(x, 2, 4);
        p.come(x, 1, 2, 0);
        byte[] wanted = Probe.bytes(165, 2, 0x02, 5, 2, 1, 3, 4, 1, 1, 0, 0, 0, 2, 0, 0, 1, 2);
        p.due("promise", Probe.frame(x, Probe.last(x)), Probe.checked(wanted));
    }

    /** A request of session 15 that reads and writes all keys. */
    static void promise18RequestWithAllKeys(Probe p) {
        Cluster x = Probe.led(2, 2);
        x.beginAt(15, 0, false);
        byte[] values = new byte[64];
        for (int key = 0; key < 16; key++) {
            x.readKey(15, key);
            x.writeKey(15, key, key == 0 ? LEAST : key == 15 ? MOST : key);
            values[4 * key + 3] = (byte) key;
        }
        System.arraycopy(Probe.bytes(128, 0, 0, 0), 0, values, 0, 4);
        System.arraycopy(Probe.bytes(127, 255, 255, 255), 0, values, 60, 4);
        x.commitIt(15);
        x.tickOf(0);
        byte[] start = Probe.bytes(165, 3, 0x02, 3, 2, 15, 2, 1, 255, 255, 255, 255);
        p.due("accept", Probe.frame(x, 1), Probe.checked(Probe.join(start, values)));
    }

    /** "as few as can be": 127 is one byte, 128 and 129 are two. */
    static void promise18NumbersAtTheLimitOfAByte(Probe p) {
        for (int r = 1; r < 4; r++) {
            Cluster x = new Cluster(7, 2, 2, 2);
            Probe.write(x, r, r, 1, 1);
            Probe.tick(x, r, r + 2);
            for (int i = 0; i < 18; i++) {
                Probe.lose(x);
                Probe.tick(x, r, 2);
            }
            p.due("ballot", x.replicaOf(r, 7), 126 + r);
            byte[] number = r == 1 ? Probe.bytes(127) : Probe.bytes(126 + r, 1);
            byte[] frame = Probe.checked(Probe.join(Probe.bytes(165, 1, 16 * r), number, Probe.bytes(1)));
            p.due("prepare", Probe.frame(x, 0), frame);
            p.due("its length", x.messageOf(0, 8), r == 1 ? 9 : 10);
        }
    }

    /** Replica 2 knows slot 1, the others know slot 3 and keep 1; all pieces of that state fly to 2. */
    private static Cluster piecesFly(int versions) {
        Cluster x = Probe.led(versions, 1);
        Probe.decideBehind(x);
        Probe.decideBehind(x);
        Probe.tick(x, 2, 2);
        x.deliverAt(Probe.find(x, 6, 2, 0));
        return x;
    }

    /** 129 bytes have a last piece of one byte. */
    static void promise18PieceOfOneByte(Probe p) {
        Cluster x = piecesFly(16);
        p.due("three pieces", x.lookAt(3), 3);
        byte[] start = Probe.bytes(165, 8, 0x02, 0, 3, 0, 3, 64, 3);
        p.due("piece 0", Arrays.copyOf(Probe.frame(x, 0), 9), start);
        p.due("piece 1", Arrays.copyOf(Probe.frame(x, 1), 8), Probe.bytes(165, 8, 0x02, 0, 3, 1, 3, 64));
        p.due("piece 2", Probe.frame(x, 2), Probe.checked(Probe.bytes(165, 8, 0x02, 0, 3, 2, 3, 1, 0)));
    }

    /** 127 bytes have a last piece of 63 bytes. */
    static void promise18PieceOfAlmostAll(Probe p) {
        Cluster x = piecesFly(15);
        p.due("two pieces", x.lookAt(3), 2);
        p.due("piece 1", Arrays.copyOf(Probe.frame(x, 1), 8), Probe.bytes(165, 8, 0x02, 0, 3, 1, 2, 63));
        p.due("its length", x.messageOf(1, 8), 8 + 63 + 4);
    }

    /** "WRITTEN at INDEX, at INDEX - 1, .., V of them": where no index is, no key is written. */
    static void promise18StateWithFewerIndices(Probe p) {
        Cluster x = piecesFly(5);
        byte[] last = Probe.frame(x, 1);
        byte[] written = Probe.bytes(0, 128, 0, 128, 128, 0, 0, 0, 0, 0);
        p.due("written", Arrays.copyOfRange(last, last.length - 14, last.length - 4), written);
    }

    // Promise 23: "NONE if there is none such, or no such what."

    static void promise23NoSuchFrame(Probe p) {
        Cluster x = threeFly();
        for (int i : new int[] {-1, 3, 200, LEAST, MOST}) {
            for (int what = 0; what < 10; what++) {
                p.due("frame " + i + ", what " + what, x.messageOf(i, what), NONE);
            }
        }
    }

    static void promise23NoSuchWhat(Probe p) {
        Cluster x = threeFly();
        for (int what : new int[] {-1, 10, 11, LEAST, MOST}) {
            p.due("what " + what, x.messageOf(0, what), NONE);
        }
    }

    /** "as it was sent": a bit of the kind, of who sends it, of the ballot and the slot is the other one. */
    static void promise23SpoiltAsItWasSent(Probe p) {
        for (int k = 1; k < 6; k++) {
            Cluster x = Probe.led(2, 2);
            Probe.write(x, 4, 0, 1, 1);
            x.tickOf(0);
            x.spoilAt(1, k, 0);
            p.message("byte " + k, x, 1, 3, 0, 2, 3, 2, 4, 0, 1, 20, NONE);
        }
    }

    /** "5: the SESSION of its REQUEST (NONE without one)", and session 0 is one. */
    static void promise23RequestOfSessionZero(Probe p) {
        Cluster x = Probe.led(2, 2);
        Probe.write(x, 0, 0, 1, 1);
        x.tickOf(0);
        p.due("accept", x.messageOf(0, 5), 0);
        p.come(x, 3, 0, 1);
        p.due("accepted has none", x.messageOf(Probe.last(x), 5), NONE);
        p.come(x, 4, 1, 0);
        p.due("chosen", x.messageOf(Probe.last(x), 5), 0);
    }

    /** "6: the BALLOT of what a PROMISE tells (0 for none, and for all other kinds)" */
    static void promise23ToldByOtherKinds(Probe p) {
        Cluster x = Probe.led(2, 2);
        Probe.write(x, 4, 0, 1, 1);
        x.tickOf(0);
        Probe.write(x, 5, 2, 1, 1);
        Probe.tick(x, 2, 4);
        p.due("accept", x.messageOf(0, 6), 0);
        p.due("forward", x.messageOf(Probe.find(x, 9, 2, 0), 6), 0);
        p.due("prepare", x.messageOf(Probe.find(x, 1, 2, 0), 6), 0);
        p.come(x, 1, 2, 0);
        p.come(x, 1, 2, 1);
        p.due("promise of 0 tells", x.messageOf(Probe.find(x, 2, 0, 2), 6), 3);
        p.due("promise of 1 does not", x.messageOf(Probe.find(x, 2, 1, 2), 6), 0);
        Cluster y = Probe.led(2, 2);
        Probe.decideBehind(y);
        Probe.tick(y, 2, 2);
        p.due("ask", y.messageOf(0, 6), 0);
        p.come(y, 6, 2, 0);
        p.due("chosen that helps", y.messageOf(0, 0) * 10 + y.messageOf(0, 6), 50);
        Probe.write(y, 4, 0, 1, 1);
        y.tickOf(0);
        p.come(y, 3, 0, 1);
        p.due("accepted", y.messageOf(Probe.last(y), 6), 0);
        p.come(y, 4, 1, 0);
        p.due("chosen", y.messageOf(Probe.last(y), 6), 0);
        Probe.tick(y, 0, 2);
        p.due("beat", y.messageOf(Probe.last(y), 0) * 10 + y.messageOf(Probe.last(y), 6), 100);
        p.due("piece of a state", piecesFly(2).messageOf(0, 6), 0);
    }

    /** "9: the number of its PIECE (NONE without one)", and 0 is one. */
    static void promise23PieceZero(Probe p) {
        Cluster x = piecesFly(2);
        p.due("piece 0", x.messageOf(0, 9), 0);
        p.due("piece 1", x.messageOf(1, 9), 1);
        p.due("no session", x.messageOf(0, 5), NONE);
        Probe.lose(x);
        Probe.tick(x, 1, 2);
        p.due("ask", x.messageOf(0, 9), NONE);
    }

    // Promise 24: "NONE for any other which."

    static void promise24NoSuchWhich(Probe p) {
        Cluster x = Probe.led(2, 2);
        for (int which : new int[] {-1, 10, 11, LEAST, MOST}) {
            p.due("which " + which, x.lookAt(which), NONE);
        }
    }

    /** "FRAMES are in FLIGHT, up to 200 ..; one that is sent when there are 200 is lost." */
    static void promise24TwoHundredFly(Probe p) {
        Cluster x = manyFly(200);
        Probe.tick(x, 1, 2);
        p.due("in flight", x.lookAt(3), 200);
        p.due("sent", x.lookAt(4), 4);
        p.due("lost", x.lookAt(5), 1);
        p.message("the last", x, 199, 6, 0, 1);
    }

    static void promise24HundredAndNinetyNineFly(Probe p) {
        Cluster x = manyFly(199);
        Probe.tick(x, 1, 2);
        p.due("in flight", x.lookAt(3), 200);
        p.due("sent", x.lookAt(4), 4);
        p.due("lost", x.lookAt(5), 0);
        p.message("the last", x, 199, 6, 1, 2);
    }

    /** Of those to all the first fits and the others are lost. */
    static void promise24OneOfThoseToAllFits(Probe p) {
        Cluster x = manyFly(199);
        Probe.write(x, 0, 0, 1, 1);
        Probe.tick(x, 0, 2);
        p.due("in flight", x.lookAt(3), 200);
        p.due("sent", x.lookAt(4), 5);
        p.due("lost", x.lookAt(5), 1);
        p.message("the last", x, 199, 1, 0, 1);
        p.due("candidate for all that", x.replicaOf(0, 6), 1);
    }

    /** "(those that were lost because there were 200, too; not those that were doubled)" */
    static void promise24DoubledAndLostOnes(Probe p) {
        Cluster x = threeFly();
        x.doubleAt(0);
        x.loseAt(1);
        x.deliverAt(0);
        p.due("sent", x.lookAt(4), 3);
        p.due("lost because there were 200", x.lookAt(5), 0);
        p.due("in flight", x.lookAt(3), 2);
    }

    /** "6: the greatest INDEX of all REPLICAS that are UP (0 without one)" */
    static void promise24GreatestIndexWithoutOne(Probe p) {
        Cluster x = Probe.led(2, 2);
        Probe.decideBehind(x);
        p.due("of all", x.lookAt(6), 2);
        x.turnTo(0, false);
        p.due("of two", x.lookAt(6), 2);
        x.turnTo(1, false);
        p.due("of the last", x.lookAt(6), 1);
        x.turnTo(2, false);
        p.due("of none", x.lookAt(6), 0);
        x.turnTo(1, true);
        p.due("of one that is up again", x.lookAt(6), 2);
    }

    /** The one that knows most is the first of all, or the last. */
    static void promise24GreatestIndexOfFirstAndLast(Probe p) {
        Cluster x = Probe.led(2, 2);
        Probe.write(x, 4, 0, 1, 1);
        x.tickOf(0);
        p.come(x, 3, 0, 2);
        p.come(x, 4, 2, 0);
        p.due("of the first", x.lookAt(6), 2);
        p.come(x, 5, 0, 2);
        x.turnTo(0, false);
        p.due("of the last", x.lookAt(6), 2);
        x.turnTo(2, false);
        p.due("of the one between", x.lookAt(6), 1);
    }

    /** "7: SESSIONS that are WAITING": those alone, and up to all 16. */
    static void promise24SessionsThatWait(Probe p) {
        Cluster x = new Cluster(3, 1, 1, 2);
        p.due("none", x.lookAt(7), 0);
        x.beginAt(0, 0, false);
        p.due("an active one does not", x.lookAt(7), 0);
        x.giveUp(0);
        for (int s = 0; s < 16; s++) {
            Probe.write(x, s, s % 3, s, s);
        }
        p.due("all", x.lookAt(7), 16);
        x.turnTo(0, false);
        p.due("though their home is down", x.lookAt(7), 16);
    }

    /** "9: SPOILT FRAMES that came (also to one that is DOWN)" */
    static void promise24SpoiltOnesThatCame(Probe p) {
        Cluster x = threeFly();
        for (int i = 0; i < 3; i++) {
            x.spoilAt(i, 0, 0);
        }
        p.due("none came", x.lookAt(9), 0);
        x.deliverAt(0);
        p.due("one came", x.lookAt(9), 1);
        x.turnTo(2, false);
        x.deliverAt(0);
        p.due("one came to one that is down", x.lookAt(9), 2);
        x.loseAt(0);
        p.due("one was lost", x.lookAt(9), 2);
        Probe.tick(x, 0, 2);
        x.deliverAt(0);
        p.due("a right one came", x.lookAt(9), 2);
    }

    static void promise24LimitsAreTold(Probe p) {
        Cluster x = new Cluster(MOST, LEAST, MOST, LEAST);
        p.due("N", x.lookAt(0), 9);
        p.due("V", x.lookAt(1), 1);
        p.due("L", x.lookAt(2), 32);
        p.due("T", x.lookAt(8), 2);
    }
}
