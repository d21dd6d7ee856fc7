/** Promises 10 to 12, 18, 23 and 24: frames in flight, their bytes, and what is counted. */
public final class FlightPromisesTest {

    private static final Probe P = new Probe();
    private static final int NONE = SnapCluster.NONE;

    public static void main(String[] args) {
        promise10();
        promise11();
        promise12();
        twoHundredFrames();
        promise18();
        promise18Requests();
        promise18Pieces();
        promise18Numbers();
        framesAreUsedAgain();
        promise23();
        promise24();
        P.end("FlightPromisesTest");
    }

    private static Cluster asking() {
        Cluster x = new Cluster(3, 1, 1, 2);
        for (int r = 0; r < 3; r++) {
            Probe.tick(x, r, 2);
        }
        return x;
    }

    private static void promise10() {
        Cluster x = asking();
        P.due("10: frame -1", x.loseAt(-1), false);
        P.due("10: frame 3", x.loseAt(3), false);
        P.due("10: frame 1", x.loseAt(1), true);
        P.due("10: two are left", x.lookAt(3), 2);
        P.due("10: the first", x.messageOf(0, 1), 0);
        P.due("10: the last comes nearer", x.messageOf(1, 1), 2);
        P.due("10: spoilt ones came", x.lookAt(9), 0);
        x.loseAt(0);
        x.loseAt(0);
        P.due("10: none", x.loseAt(0), false);
    }

    private static void promise11() {
        Cluster x = asking();
        P.due("11: frame -1", x.doubleAt(-1), false);
        P.due("11: frame 3", x.doubleAt(3), false);
        x.spoilAt(1, 3, 2);
        P.due("11: a right one", x.doubleAt(0), true);
        P.due("11: a spoilt one", x.doubleAt(1), true);
        P.due("11: they are behind", x.messageOf(3, 1) * 10 + x.messageOf(4, 1), 1);
        P.due("11: as they are", x.messageOf(3, 7) * 10 + x.messageOf(4, 7), 1);
        P.due("11: with the same bytes", Probe.frame(x, 4), Probe.frame(x, 1));
        P.due("11: it is spoilt already", x.spoilAt(4, 0, 0), false);
        x.spoilAt(3, 0, 0);
        P.due("11: the first stays right", x.messageOf(0, 7), 0);
        P.due("11: sent", x.lookAt(4), 3);
        P.due("11: spoilt", x.deliverAt(4), 0);
        P.due("11: right", x.deliverAt(0), 6);
    }

    private static void promise12() {
        Cluster x = asking();
        P.due("12: frame -1", x.spoilAt(-1, 0, 0), false);
        P.due("12: frame 3", x.spoilAt(3, 0, 0), false);
        P.due("12: byte -1", x.spoilAt(0, -1, 0), false);
        P.due("12: byte 9 of 9", x.spoilAt(0, 9, 0), false);
        P.due("12: bit -1", x.spoilAt(0, 0, -1), false);
        P.due("12: bit 8", x.spoilAt(0, 0, 8), false);
        P.due("12: it is right still", x.messageOf(0, 7), 0);
        byte[] right = Probe.frame(x, 0);
        P.due("12: the last byte", x.spoilAt(0, 8, 7), true);
        right[8] ^= (byte) 128;
        P.due("12: its bytes", Probe.frame(x, 0), right);
        P.due("12: not twice", x.spoilAt(0, 8, 7), false);
        P.due("12: nor elsewhere", x.spoilAt(0, 0, 0), false);
        P.due("12: the first byte", x.spoilAt(1, 0, 0), true);
        P.due("12: its first byte", Probe.frame(x, 1)[0] & 255, 164);
        P.due("12: spoilt", x.messageOf(1, 7), 1);
        P.due("12: its kind as it was sent", x.messageOf(1, 0), 6);
        x.spoilAt(2, 1, 0);
        P.due("12: a spoilt kind", Probe.frame(x, 2)[1], 7);
        P.due("12: as it was sent", x.messageOf(2, 0), 6);
        P.due("12: it does not come", x.deliverAt(2), 0);
    }

    private static void twoHundredFrames() {
        Cluster x = asking();
        for (int i = 3; i < 199; i++) {
            x.doubleAt(0);
        }
        P.due("11: frames", x.lookAt(3), 199);
        P.due("11: the last that fits", x.doubleAt(2), true);
        P.due("11: one too many", x.doubleAt(0), false);
        P.due("24: none was lost by that", x.lookAt(5), 0);
        Probe.write(x, 0, 0, 1, 1);
        P.due("24: full", x.tickOf(0), 200);
        P.due("24: full", x.tickOf(0), 200);
        P.due("24: lost", x.lookAt(5), 2);
        P.due("24: sent", x.lookAt(4), 5);
        P.due("24: campaigned for all that", x.replicaOf(0, 6), 1);
        x.loseAt(0);
        Probe.tick(x, 0, 2);
        P.due("24: one fits", x.lookAt(3), 200);
        P.due("24: the first of them", x.messageOf(199, 2), 1);
        P.due("24: lost", x.lookAt(5), 3);
        P.due("24: sent", x.lookAt(4), 7);
        P.due("9: what came is in flight no more", x.deliverAt(199), 1);
        P.due("9: its answer fits", x.messageOf(199, 0), 2);
        P.due("24: no more lost", x.lookAt(5), 3);
    }

    private static void promise18() {
        Cluster x = asking();
        byte[] ask = Probe.checked(Probe.bytes(165, 6, 0x01, 0, 1));
        P.due("18: ask", Probe.frame(x, 0), ask);
        P.due("18: ask to the first", Probe.frame(x, 2), Probe.checked(Probe.bytes(165, 6, 0x20, 0, 1)));
        P.due("18: the rest is 0", x.frameOf(0, 1), (long) ask[8] << 56);
        P.due("18: none", x.frameOf(0, 2), 0);
        P.due("18: word -1", x.frameOf(0, -1), 0);
        P.due("18: word far behind", x.frameOf(0, Integer.MAX_VALUE), 0);
        P.due("18: a word that wraps round", x.frameOf(0, 1 << 29), 0);
        P.due("18: frame -1", x.frameOf(-1, 0), 0);
        P.due("18: frame 3", x.frameOf(3, 0), 0);
    }

    private static void promise18Requests() {
        Cluster x = new Cluster(3, 2, 2, 2);
        x.beginAt(9, 0, false);
        x.readKey(9, 8);
        x.readKey(9, 1);
        x.writeKey(9, 12, -2);
        x.writeKey(9, 3, 0x01020304);
        x.commitIt(9);
        byte[] request = Probe.bytes(9, 1, 0, 1, 2, 16, 8, 1, 2, 3, 4, 255, 255, 255, 254);
        Probe.tick(x, 0, 100);
        P.due("18: ballot 150", x.replicaOf(0, 7), 150);
        Probe.lose(x, 2);
        Probe.tick(x, 0, 2);
        P.due("18: prepare", Probe.frame(x, 2), Probe.checked(Probe.bytes(165, 1, 0x01, 128 + 25, 1, 1)));
        x.deliverAt(2);
        P.due("18: promise", Probe.frame(x, 3), Probe.checked(Probe.bytes(165, 2, 0x10, 153, 1, 1, 0)));
        x.deliverAt(3);
        byte[] start = Probe.bytes(165, 3, 0x01, 153, 1, 1);
        P.due("18: accept", Probe.frame(x, 3), Probe.checked(Probe.join(start, request)));
        x.deliverAt(3);
        P.due("18: accepted", Probe.frame(x, 4), Probe.checked(Probe.bytes(165, 4, 0x10, 153, 1, 1)));
        P.due("18: a prepare of long ago", x.messageOf(0, 3), 3);
        x.deliverAt(0);
        byte[] deny = Probe.bytes(165, 7, 0x10, 153, 1, 0);
        P.due("18: deny", Probe.frame(x, x.lookAt(3) - 1), Probe.checked(deny));
        promise18Told(request);
    }

    private static void promise18Told(byte[] request) {
        Cluster x = new Cluster(3, 2, 2, 2);
        x.beginAt(9, 0, false);
        x.readKey(9, 8);
        x.readKey(9, 1);
        x.writeKey(9, 12, -2);
        x.writeKey(9, 3, 0x01020304);
        x.commitIt(9);
        Probe.tick(x, 0, 2);
        x.deliverAt(0);
        x.deliverAt(1);
        x.deliverAt(1);
        Probe.write(x, 1, 1, 4, 5);
        Probe.lose(x);
        Probe.tick(x, 1, 1);
        byte[] sent = Probe.bytes(165, 9, 0x10, 0, 0, 1, 1, 0, 0, 0, 0, 16, 0, 0, 0, 5);
        P.due("18: forward", Probe.frame(x, 0), Probe.checked(sent));
        Probe.tick(x, 1, 2);
        x.deliverAt(2);
        byte[] told = Probe.join(Probe.bytes(165, 2, 0x01, 4, 1, 1, 3), request);
        P.due("18: promise that tells", Probe.frame(x, 3), Probe.checked(told));
        x.deliverAt(3);
        P.due("18: accept to 0", x.messageOf(3, 0), 3);
        x.deliverAt(3);
        P.due("18: accepted of 0", x.messageOf(4, 0), 4);
        x.deliverAt(4);
        byte[] chosen = Probe.join(Probe.bytes(165, 5, 0x12, 0, 1), request);
        P.due("18: chosen", Probe.frame(x, 5), Probe.checked(chosen));
    }

    private static void promise18Pieces() {
        Cluster x = new Cluster(3, 2, 1, 2);
        Probe.write(x, 2, 0, 0, 0x0A0B0C0D);
        Probe.tick(x, 0, 2);
        Probe.deliverBut(x, 2);
        Probe.decideBehind(x);
        Probe.tick(x, 2, 4);
        x.deliverAt(0);
        byte[] values = new byte[64];
        values[0] = 10;
        values[1] = 11;
        values[2] = 12;
        values[3] = 13;
        byte[] known = new byte[32];
        known[4] = 1;
        known[5] = 1;
        known[14] = 1;
        known[15] = 1;
        byte[] state = Probe.join(Probe.bytes(2), values, known, Probe.bytes(0, 128, 0, 1));
        P.due("18: pieces", x.messageOf(x.lookAt(3) - 1, 9), 1);
        byte[] first = Probe.join(Probe.bytes(165, 8, 0x02, 0, 2, 0, 2, 64), java.util.Arrays.copyOf(state, 64));
        P.due("18: piece 0", Probe.frame(x, x.lookAt(3) - 2), Probe.checked(first));
        byte[] rest = java.util.Arrays.copyOfRange(state, 64, 101);
        byte[] last = Probe.join(Probe.bytes(165, 8, 0x02, 0, 2, 1, 2, 37), rest);
        P.due("18: piece 1", Probe.frame(x, x.lookAt(3) - 1), Probe.checked(last));
        Cluster y = Probe.led(2, 2);
        Probe.tick(y, 0, 2);
        P.due("18: beat", Probe.frame(y, 1), Probe.checked(Probe.bytes(165, 10, 0x02, 3, 1)));
    }

    /** 127 is one byte, 128 is two, and both are read again from the journal. */
    private static void promise18Numbers() {
        for (int r = 1; r < 3; r++) {
            Cluster x = new Cluster(3, 2, 2, 2);
            Probe.write(x, r, r, 1, 1);
            Probe.tick(x, r, r);
            for (int i = 0; i < 43; i++) {
                Probe.lose(x);
                Probe.tick(x, r, 2);
            }
            P.due("18: ballot", x.replicaOf(r, 7), 126 + r);
            byte[] number = r == 1 ? Probe.bytes(127) : Probe.bytes(128, 1);
            byte[] start = Probe.bytes(165, 1, 16 * r);
            P.due("18: its bytes", Probe.frame(x, 0), Probe.checked(Probe.join(start, number, Probe.bytes(1))));
            x.turnTo(r, false);
            x.turnTo(r, true);
            P.due("13: read again", x.replicaOf(r, 4), 126 + r);
        }
    }

    /** Nothing of a frame that was lost is left in one that is sent later. */
    private static void framesAreUsedAgain() {
        Cluster x = new Cluster(3, 2, 1, 2);
        Probe.write(x, 0, 0, 1, 1);
        Probe.tick(x, 0, 2);
        x.deliverAt(0);
        x.deliverAt(1);
        x.deliverAt(1);
        Probe.lose(x);
        Probe.write(x, 1, 1, 4, 5);
        Probe.tick(x, 1, 3);
        Probe.lose(x, 3);
        x.deliverAt(x.lookAt(3) - 1);
        int told = x.lookAt(3) - 1;
        P.due("23: a promise that tells", x.messageOf(told, 6), 3);
        P.due("23: of the request of session 0", x.messageOf(told, 5), 0);
        for (int i = 0; i < 4; i++) {
            x.doubleAt(told);
            x.spoilAt(told + i, 0, 0);
        }
        Probe.lose(x);
        Probe.tick(x, 2, 12);
        P.due("23: asks", x.lookAt(3), 6);
        for (int i = 0; i < 6; i++) {
            P.due("23: session", x.messageOf(i, 5), NONE);
            P.due("23: told", x.messageOf(i, 6), 0);
            P.due("23: spoilt", x.messageOf(i, 7), 0);
            P.due("23: bytes", Probe.frame(x, i), Probe.checked(Probe.bytes(165, 6, 0x20, 0, 1)));
        }
    }

    private static void promise23() {
        Cluster x = asking();
        int[] wanted = {6, 1, 2, 0, 1, NONE, 0, 0, 9, NONE, NONE};
        for (int what = 0; what < wanted.length; what++) {
            P.due("23: messageOf " + what, x.messageOf(1, what), wanted[what]);
        }
        P.due("23: what -1", x.messageOf(1, -1), NONE);
        P.due("23: frame -1", x.messageOf(-1, 0), NONE);
        P.due("23: frame 3", x.messageOf(3, 0), NONE);
        x.spoilAt(1, 2, 4);
        P.due("23: the sender as it was sent", x.messageOf(1, 1), 1);
        P.due("23: spoilt", x.messageOf(1, 7), 1);
    }

    private static void promise24() {
        Cluster x = new Cluster(4, 5, 6, 7);
        int[] first = {4, 5, 6, 0, 0, 0, 0, 0, 7, 0, NONE};
        for (int which = 0; which < first.length; which++) {
            P.due("24: lookAt " + which, x.lookAt(which), first[which]);
        }
        P.due("24: which -1", x.lookAt(-1), NONE);
        P.due("24: which 99", x.lookAt(99), NONE);
        Cluster y = Probe.led(2, 2);
        P.due("24: nobody waits", y.lookAt(7), 0);
        P.due("24: the greatest index", y.lookAt(6), 1);
        Probe.write(y, 0, 0, 1, 1);
        Probe.write(y, 1, 1, 1, 1);
        P.due("24: two wait", y.lookAt(7), 2);
        Probe.tick(y, 0, 1);
        y.deliverAt(0);
        y.deliverAt(1);
        P.due("24: one knows more", y.lookAt(6), 2);
        y.turnTo(0, false);
        P.due("24: of those that are up", y.lookAt(6), 1);
        y.turnTo(1, false);
        y.turnTo(2, false);
        P.due("24: none is up", y.lookAt(6), 0);
        P.due("24: one waits on", y.lookAt(7), 1);
    }
}
