/** Promises 16 and 17, join and leave, and STATES (section IV) of FRAMES that are no DATA. */
public final class JoinTest {
    private static final Checks CHECKS = new Checks();
    private static final byte[] AUTH_1 = Reference.bytes(0, 0, 1, 0, 0, 0);
    private static final byte[] AUTH_2 = Reference.bytes(0, 0, 2, 0, 0, 0);
    private static final byte[] ASK = Reference.bytes(1, 0, 10, 0);

    private JoinTest() {
    }

    public static void main(String[] args) {
        wrongStations();
        allFrames();
        joinAnew();
        joinWithFullQueue();
        joinBehindSaying();
        leave();
        leaveForgetsAsking();
        endKeepsAsking();
        authAtStation();
        askOfNone();
        askOfKeyed();
        authOfKeyed();
        endAtAp();
        grant();
        otherBodies();
        otherSpeakers();
        otherKindsAtAp();
        allStations();
        CHECKS.finish();
    }

    private static byte[] frame(int kind, int flags, int to, int from, int sc, byte[] body) {
        return Reference.withFcs(Reference.join(Reference.header(kind, flags, to, from, 0, sc), body));
    }

    private static byte[] ack(int to) {
        return Reference.withFcs(Reference.join(Reference.bytes(212, 0, 0, 0), Reference.address(to)));
    }

    private static void wrongStations() {
        WirelessCell cell = new WirelessCell();
        int[] wrong = {Integer.MIN_VALUE, -1, 0, 9, Integer.MAX_VALUE};
        for (int k : wrong) {
            CHECKS.due("join(" + k + ")", cell.join(k), -1);
            CHECKS.due("leave(" + k + ", 3)", cell.leave(k, 3), -1);
        }
        CHECKS.due("leave(1, -1)", cell.leave(1, -1), -1);
        CHECKS.due("leave(1, 256)", cell.leave(1, 256), -1);
        CHECKS.due("nothing is QUEUED", cell.node(1, 2), 0);
        CHECKS.due("nothing is sent", cell.go(50), 0);
        CHECKS.due("leave(1, 255)", cell.leave(1, 255), 0);
        CHECKS.due("leave(8, 0)", cell.leave(8, 0), 0);
        CHECKS.due("join(8)", cell.join(8), 0);
    }

    /** Every byte of every FRAME by which station 5 joins and is keyed, and the slot in which each begins. */
    private static void allFrames() {
        WirelessCell cell = new WirelessCell();
        cell.nonce(0, -1L, 0x0102030405060708L, 7, 0);
        Cells.tell(cell, 5);
        CHECKS.due("join", cell.join(5), 0);
        CHECKS.due("FRAMES", cell.go(87), 16);
        byte[] ptk = Cells.ptk(5);
        byte[] head = Reference.bytes(170, 170, 3, 0, 0, 0, 136, 142);
        byte[] hand1 = Reference.join(Reference.bytes(1), Cells.nonce(0));
        byte[] hand2 = Reference.join(Reference.bytes(2), Cells.nonce(5));
        byte[] hand3 = Reference.join(Reference.bytes(3), Cells.nonce(0));
        byte[] hand4 = Reference.bytes(4);
        byte[][] want = {
            frame(176, 0, 0, 5, 0, AUTH_1), ack(5),
            frame(176, 0, 5, 0, 0, AUTH_2), ack(0),
            frame(0, 0, 0, 5, 16, ASK), ack(5),
            frame(16, 0, 5, 0, 16, Reference.bytes(1, 0, 0, 0, 5, 192)), ack(0),
            frame(8, 2, 5, 0, 32, Reference.join(head, hand1)), ack(0),
            frame(8, 1, 0, 5, 32, Reference.join(head, hand2, Reference.mic(ptk, hand2))), ack(5),
            frame(8, 2, 5, 0, 48, Reference.join(head, hand3, Reference.mic(ptk, hand3))), ack(0),
            frame(8, 1, 0, 5, 48, Reference.join(head, hand4, Reference.mic(ptk, hand4))), ack(5)};
        int[] slots = {0, 5, 11, 16, 22, 26, 32, 37, 43, 49, 55, 61, 67, 73, 79, 84};
        int[] senders = {5, 0, 0, 5, 5, 0, 0, 5, 0, 5, 5, 0, 0, 5, 5, 0};
        for (int i = 0; i < want.length; i++) {
            int latest = want.length - 1 - i;
            CHECKS.due("FRAME " + i, Cells.frame(cell, latest), want[i]);
            CHECKS.due("its slot", cell.air(latest, 0), slots[i]);
            CHECKS.due("its sender", cell.air(latest, 1), senders[i]);
            CHECKS.due("it was CLEAN", cell.air(latest, 4), 1);
        }
        CHECKS.due("keyed", cell.node(5, 0), 4);
        CHECKS.due("keyed at the AP", cell.node(5, 1), 4);
    }

    private static void joinAnew() {
        WirelessCell cell = Cells.keyed(1);
        CHECKS.due("keyed", cell.node(1, 0), 4);
        cell.join(1);
        CHECKS.due("none", cell.node(1, 0), 1);
        CHECKS.due("without key", cell.key(1, 0, 0), -1);
        CHECKS.due("as the AP has it", cell.node(1, 1), 4);
        CHECKS.due("the AP's key", cell.key(1, 1, 0), Cells.tk(1)[0] & 255);
        cell.go(4);
        CHECKS.due("known at the AP", cell.node(1, 1), 2);
        CHECKS.due("the AP's key is gone", cell.key(1, 1, 0), -1);
        cell.go(200);
        CHECKS.due("keyed again", cell.node(1, 0), 4);
        CHECKS.due("keyed again at the AP", cell.node(1, 1), 4);
    }

    private static void joinWithFullQueue() {
        WirelessCell cell = new WirelessCell();
        for (int i = 0; i < 14; i++) {
            CHECKS.due("join", cell.join(1), 0);
            CHECKS.due("QUEUED", cell.node(1, 2), Math.min(12, i + 1));
            CHECKS.due("numbers given", cell.node(1, 7), Math.min(12, i + 1));
        }
    }

    /** Rows of the QUEUE that held what was said hold FRAMES of another kind then. */
    private static void joinBehindSaying() {
        WirelessCell cell = Cells.keyed(2);
        for (int i = 0; i < 30; i++) {
            Cells.say(cell, 1, 2, i);
            cell.go(50);
        }
        CHECKS.due("all were passed on", cell.node(2, 8), 30);
        cell.join(1);
        CHECKS.due("FRAMES", cell.go(100), 16);
        CHECKS.due("AUTH", Cells.frame(cell, 15), frame(176, 0, 0, 1, 34 * 16, AUTH_1));
        CHECKS.due("AUTH 2", Cells.frame(cell, 13), frame(176, 0, 1, 0, 38 * 16, AUTH_2));
        CHECKS.due("keyed", cell.node(1, 0), 4);
        CHECKS.due("keyed at the AP", cell.node(1, 1), 4);
    }

    private static void leave() {
        WirelessCell cell = Cells.keyed(2);
        CHECKS.due("leave", cell.leave(2, 77), 0);
        CHECKS.due("none", cell.node(2, 0), 1);
        CHECKS.due("without key", cell.key(2, 0, 5), -1);
        CHECKS.due("keyed at the AP", cell.node(0, 0), 2);
        cell.go(60);
        CHECKS.due("its FRAME", Cells.frame(cell, 1), frame(192, 0, 0, 2, 4 * 16, Reference.bytes(77, 0)));
        CHECKS.due("none at the AP", cell.node(2, 1), 1);
        CHECKS.due("without key at the AP", cell.key(2, 1, 5), -1);
        CHECKS.due("one is keyed at the AP", cell.node(0, 0), 1);
    }

    private static void leaveForgetsAsking() {
        WirelessCell cell = Cells.keyed(1);
        cell.leave(1, 3);
        cell.go(60);
        CHECKS.due("taken", Cells.putNow(cell, frame(176, 0, 1, 0, 900 * 16, AUTH_2), 20), 2);
        CHECKS.due("AUTH of step 2 did nothing", cell.node(1, 0), 1);
        CHECKS.due("nothing is QUEUED", cell.node(1, 2), 0);
        cell.join(1);
        cell.go(200);
        CHECKS.due("asked anew, it joins", cell.node(1, 0), 4);
    }

    private static void endKeepsAsking() {
        WirelessCell cell = Cells.keyed(1);
        Cells.putNow(cell, frame(192, 0, 1, 0, 900 * 16, Reference.bytes(200, 0)), 20);
        CHECKS.due("END from the AP: none", cell.node(1, 0), 1);
        CHECKS.due("without key", cell.key(1, 0, 0), -1);
        Cells.putNow(cell, frame(176, 0, 1, 0, 901 * 16, AUTH_2), 4);
        CHECKS.due("it has still asked to join", cell.node(1, 0), 2);
        CHECKS.due("ASK is QUEUED", cell.node(1, 2), 1);
    }

    private static void authAtStation() {
        WirelessCell cell = new WirelessCell();
        Cells.putNow(cell, frame(176, 0, 1, 0, 0, AUTH_2), 20);
        CHECKS.due("not asked: none", cell.node(1, 0), 1);
        CHECKS.due("only an ACK is sent", cell.count(1), 2);
        WirelessCell keyed = Cells.keyed(1);
        Cells.putNow(keyed, frame(176, 0, 1, 0, 900 * 16, AUTH_2), 20);
        CHECKS.due("not none: as it was", keyed.node(1, 0), 4);
        Cells.putNow(keyed, frame(176, 0, 1, 0, 901 * 16, AUTH_1), 20);
        CHECKS.due("step 1 is not for stations", keyed.node(1, 0), 4);
    }

    private static void askOfNone() {
        WirelessCell cell = new WirelessCell();
        Cells.putNow(cell, frame(0, 0, 0, 4, 0, ASK), 30);
        CHECKS.due("none", cell.node(4, 1), 1);
        CHECKS.due("END 6", Cells.frame(cell, 1), frame(192, 0, 4, 0, 0, Reference.bytes(6, 0)));
    }

    private static void askOfKeyed() {
        WirelessCell cell = Cells.keyed(1);
        Cells.putNow(cell, frame(0, 0, 0, 1, 900 * 16, ASK), 3);
        CHECKS.due("joined", cell.node(1, 1), 3);
        CHECKS.due("without key", cell.key(1, 1, 0), -1);
        CHECKS.due("GRANT and HAND 1", cell.node(0, 2), 2);
        cell.go(150);
        CHECKS.due("the keyed station answers HAND 1 again", cell.node(1, 1), 4);
    }

    private static void authOfKeyed() {
        WirelessCell cell = Cells.keyed(1);
        Cells.putNow(cell, frame(176, 8, 0, 1, 900 * 16, AUTH_1), 4);
        CHECKS.due("known", cell.node(1, 1), 2);
        CHECKS.due("without key", cell.key(1, 1, 0), -1);
        CHECKS.due("AUTH 2", cell.node(0, 2), 1);
        CHECKS.due("nothing at the station", cell.node(1, 0), 4);
    }

    private static void endAtAp() {
        WirelessCell cell = Cells.keyed(2);
        Cells.putNow(cell, frame(192, 0, 0, 1, 900 * 16, Reference.bytes(0, 0)), 20);
        CHECKS.due("none", cell.node(1, 1), 1);
        CHECKS.due("the other one", cell.node(2, 1), 4);
        Cells.putNow(cell, frame(192, 0, 0, 2, 900 * 16, Reference.bytes(0, 1)), 20);
        CHECKS.due("its second byte is not 0", cell.node(2, 1), 4);
        Cells.putNow(cell, frame(192, 0, 0, 2, 901 * 16, Reference.bytes(0, 0, 0)), 20);
        CHECKS.due("three bytes", cell.node(2, 1), 4);
    }

    private static void grant() {
        byte[] right = Reference.bytes(1, 0, 0, 0, 1, 192);
        byte[][] bodies = {Reference.bytes(1, 0, 0, 0, 2, 192), Reference.bytes(1, 0, 1, 0, 1, 192),
            Reference.bytes(1, 0, 0, 0, 1), Reference.bytes(1, 0, 0, 0, 1, 192, 0), right};
        WirelessCell none = new WirelessCell();
        Cells.putNow(none, frame(16, 0, 1, 0, 0, right), 10);
        CHECKS.due("GRANT of none", none.node(1, 0), 1);
        for (byte[] body : bodies) {
            WirelessCell cell = knownStation();
            Cells.putNow(cell, frame(16, 0, 1, 0, 900 * 16, body), 10);
            CHECKS.due("GRANT of known", cell.node(1, 0), body == right ? 3 : 2);
        }
    }

    /** Station 1 is known by itself, and its ASK is GIVEN UP in noise: the medium is quiet. */
    private static WirelessCell knownStation() {
        WirelessCell cell = new WirelessCell();
        cell.limit(1);
        cell.join(1);
        cell.go(19);
        cell.noise(19, 40);
        cell.go(40);
        return cell;
    }

    private static void otherBodies() {
        byte[][] bodies = {Reference.bytes(0, 0, 3, 0, 0, 0), Reference.bytes(0, 0, 2, 0, 0, 0),
            Reference.bytes(0, 0, 1, 0, 0), Reference.bytes(0, 0, 1, 0, 0, 0, 0), Reference.bytes(1, 0, 1, 0, 0, 0),
            Reference.bytes(0, 0, 1, 0, 0, 1), new byte[0]};
        for (byte[] body : bodies) {
            WirelessCell cell = new WirelessCell();
            CHECKS.due("taken, so an ACK is sent", Cells.putNow(cell, frame(176, 0, 0, 3, 0, body), 40), 2);
            CHECKS.due("nothing is done", cell.node(3, 1), 1);
            CHECKS.due("nothing is QUEUED", cell.node(0, 7), 0);
        }
        byte[][] asks = {Reference.bytes(1, 0, 10), Reference.bytes(1, 0, 10, 0, 0), Reference.bytes(1, 0, 10, 1)};
        for (byte[] body : asks) {
            WirelessCell cell = new WirelessCell();
            CHECKS.due("an ACK alone", Cells.putNow(cell, frame(0, 0, 0, 3, 0, body), 40), 2);
        }
    }

    private static void otherSpeakers() {
        WirelessCell cell = new WirelessCell();
        byte[] foreign = Reference.join(Reference.bytes(176, 0, 0, 0), Reference.address(0),
                Reference.bytes(6, 5, 4, 3, 2, 1), Reference.address(0), Reference.bytes(0, 0), AUTH_1);
        CHECKS.due("taken", Cells.putNow(cell, Reference.withFcs(foreign), 40), 2);
        CHECKS.due("an ACK for its A2", Cells.frame(cell, 0), Reference.withFcs(
                Reference.bytes(212, 0, 0, 0, 6, 5, 4, 3, 2, 1)));
        CHECKS.due("the AP to itself", Cells.putNow(cell, frame(176, 0, 0, 0, 0, AUTH_1), 40), 2);
        CHECKS.due("an ACK for itself", Cells.frame(cell, 0), ack(0));
        CHECKS.due("node 9 is none", Cells.putNow(cell, frame(176, 0, 0, 9, 0, AUTH_1), 40), 2);
        CHECKS.due("nothing is QUEUED", cell.node(0, 7), 0);
        cell.join(1);
        cell.go(4);
        cell.noise(cell.count(0), cell.count(0) + 100);
        cell.go(101);
        CHECKS.due("a station to a station", Cells.putNow(cell, frame(176, 0, 1, 2, 0, AUTH_2), 40), 2);
        CHECKS.due("does nothing", cell.node(1, 0), 1);
        CHECKS.due("for nobody", Cells.putNow(cell, frame(176, 0, 9, 1, 0, AUTH_1), 40), 1);
        for (int i = 0; i < 5; i++) {
            byte[] near = java.util.Arrays.copyOf(frame(176, 0, 0, 1, 0, AUTH_1), 30);
            near[4 + i] ^= 1;
            CHECKS.due("A1 is near the AP's", Cells.putNow(cell, Reference.withFcs(near), 40), 1);
        }
    }

    private static void otherKindsAtAp() {
        WirelessCell cell = new WirelessCell();
        CHECKS.due("GRANT to the AP",
                Cells.putNow(cell, frame(16, 0, 0, 2, 0, Reference.bytes(1, 0, 0, 0, 2, 192)), 40), 2);
        int[][] wrong = {{1, 0}, {176, 1}, {176, 64}, {0, 4}, {192, 16}, {16, 12}, {8, 16}, {8, 33}, {8, 129}};
        for (int[] fc : wrong) {
            CHECKS.due("FC " + fc[0] + ", " + fc[1] + " is not taken",
                    Cells.putNow(cell, frame(fc[0], fc[1], 0, 2, 0, AUTH_1), 40), 1);
        }
        int[] flags = {0, 1, 2, 3, 4, 8, 64, 79};
        for (int flag : flags) {
            CHECKS.due("DATA with " + flag + " is taken",
                    Cells.putNow(cell, frame(8, flag, 0, 2, 16 * flag, AUTH_1), 40), 2);
        }
        byte[] broken = frame(176, 0, 0, 2, 0, AUTH_1);
        broken[30] ^= 1;
        CHECKS.due("wrong FCS", Cells.putNow(cell, broken, 40), 1);
        CHECKS.due("nothing was QUEUED", cell.node(0, 7), 0);
    }

    private static void allStations() {
        WirelessCell cell = Cells.keyed(8);
        for (int k = 1; k <= 8; k++) {
            CHECKS.due("station " + k, cell.node(k, 0), 4);
            CHECKS.due("TK of " + k, Cells.key(cell, k, 0), Cells.tk(k));
            CHECKS.due("TK of " + k + " at the AP", Cells.key(cell, k, 1), Cells.tk(k));
        }
        CHECKS.due("all are keyed", cell.node(0, 0), 8);
    }
}
