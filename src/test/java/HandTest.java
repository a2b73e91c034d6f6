/** KEYS (section III), HANDS of section IV, and promise 22, key. */
public final class HandTest {
    private static final Checks CHECKS = new Checks();
    private static final byte[] HEAD = Reference.bytes(170, 170, 3, 0, 0, 0, 136, 142);

    private int sequence = 1000;
    private final WirelessCell cell;

    private HandTest(WirelessCell cell) {
        this.cell = cell;
    }

    public static void main(String[] args) {
        referenceIsRight();
        key();
        wrongSecret();
        nonceChangesOnTheWay();
        hand2AtAp();
        hand2AsNoHand();
        hand4AtAp();
        hand1AtStation();
        hand3AtStation();
        keyedAnew();
        keyedAnewForgetsParts();
        withoutKeyForgetsParts();
        lostKeyLosesTried();
        handsOfOtherStates();
        handsInParts();
        CHECKS.finish();
    }

    /** RFC 2202's second case and RFC 3610's first packet: what the other tests lean on. */
    private static void referenceIsRight() {
        byte[] text = "what do ya want for nothing?".getBytes(java.nio.charset.StandardCharsets.US_ASCII);
        CHECKS.due("HMAC-SHA-1", Reference.hmac(Reference.bytes('J', 'e', 'f', 'e'), text),
                hex("effcdf6ae5eb2fa2d27416d5f184df9c259a7c79"));
        CHECKS.due("CCM", Reference.ccmSeal(hex("c0c1c2c3c4c5c6c7c8c9cacbcccdcecf"), hex("00000003020100a0a1a2a3a4a5"),
                hex("0001020304050607"), hex("08090a0b0c0d0e0f101112131415161718191a1b1c1d1e")),
                hex("588c979a61c663d2f066d0c2c0f989806d5f6b61dac38417e8d12cfdf926e0"));
    }

    private static byte[] hex(String digits) {
        byte[] row = new byte[digits.length() / 2];
        for (int i = 0; i < row.length; i++) {
            row[i] = (byte) Integer.parseInt(digits.substring(2 * i, 2 * i + 2), 16);
        }
        return row;
    }

    private static byte[] hand(int number, byte[] nonce, byte[] ptk) {
        byte[] hand = Reference.join(Reference.bytes(number), nonce);
        return ptk == null ? Reference.join(HEAD, hand) : Reference.join(HEAD, hand, Reference.mic(ptk, hand));
    }

    /** Somebody puts DATA for the AP, or for the station, on the air, and the slots of it go. */
    private void put(boolean toAp, int flags, int part, byte[] body) {
        byte[] header = Reference.header(8, flags, toAp ? 0 : 1, toAp ? 1 : 0, 0, part + 16 * sequence);
        sequence++;
        byte[] frame = Reference.withFcs(Reference.join(header, body));
        Cells.putNow(cell, frame, 2 + (frame.length + 31) / 32);
    }

    private static void key() {
        WirelessCell cell = Cells.keyed(2);
        for (int side = 0; side < 2; side++) {
            CHECKS.due("TK of 1, side " + side, Cells.key(cell, 1, side), Cells.tk(1));
            CHECKS.due("TK of 2, side " + side, Cells.key(cell, 2, side), Cells.tk(2));
            CHECKS.due("byte 16", cell.key(1, side, 16), -1);
            CHECKS.due("byte -1", cell.key(1, side, -1), -1);
            CHECKS.due("not keyed", cell.key(3, side, 0), -1);
            CHECKS.due("no station", cell.key(0, side, 0), -1);
            CHECKS.due("no station", cell.key(9, side, 0), -1);
            CHECKS.due("no station", cell.key(-1, side, 0), -1);
        }
        CHECKS.due("side 2", cell.key(1, 2, 0), -1);
        CHECKS.due("side -1", cell.key(1, -1, 0), -1);
    }

    private static void wrongSecret() {
        WirelessCell cell = new WirelessCell();
        Cells.tell(cell, 1);
        cell.known(1, 11, 22, 33, 2);
        cell.join(1);
        CHECKS.due("no HAND 3", cell.go(500), 12);
        CHECKS.due("joined", cell.node(1, 0), 3);
        CHECKS.due("joined at the AP", cell.node(1, 1), 3);
        CHECKS.due("without key", cell.key(1, 0, 0), -1);
    }

    private static void nonceChangesOnTheWay() {
        WirelessCell ap = new WirelessCell();
        Cells.tell(ap, 1);
        ap.join(1);
        ap.go(30);
        CHECKS.due("HAND 1 is QUEUED", ap.node(0, 2), 2);
        ap.nonce(0, 1, 1, 1, 1);
        ap.go(300);
        CHECKS.due("HAND 1 has the NONCE as it was then, HAND 2 is wrong by the new one", ap.node(1, 0), 3);
        CHECKS.due("HAND 1's NONCE", ap.air(3, 10 + 33), 0);
        WirelessCell station = new WirelessCell();
        Cells.tell(station, 1);
        station.join(1);
        station.go(48);
        station.nonce(1, 1, 1, 1, 1);
        station.secret(1, 1, 1, 1, 1);
        station.go(300);
        CHECKS.due("TRIED is kept as it was made", station.node(1, 0), 4);
        CHECKS.due("the TK", Cells.key(station, 1, 0),
                Reference.tk(Reference.ptk(Cells.secret(1), 1, new byte[32], Cells.nonce(1))));
    }

    /** A station that is joined, both sides, without TRIED: its HANDS were lost in noise. */
    private static HandTest joined() {
        WirelessCell cell = new WirelessCell();
        Cells.tell(cell, 1);
        cell.nonce(0, -1L, 0x0102030405060708L, 7, 0);
        cell.limit(1);
        cell.join(1);
        cell.go(40);
        cell.noise(40, 100);
        cell.go(70);
        cell.limit(4);
        CHECKS.due("joined", cell.node(1, 0), 3);
        CHECKS.due("joined at the AP", cell.node(1, 1), 3);
        CHECKS.due("nothing is QUEUED", cell.node(0, 2) + cell.node(1, 2), 0);
        return new HandTest(cell);
    }

    private static void hand2AtAp() {
        byte[] nonce = Reference.longs(9, 8, 7, 6);
        byte[] ptk = Reference.ptk(Cells.secret(1), 1, Cells.nonce(0), nonce);
        HandTest test = joined();
        byte[] wrongMic = hand(2, nonce, ptk);
        wrongMic[wrongMic.length - 1] ^= 1;
        test.put(true, 1, 0, wrongMic);
        CHECKS.due("HAND 2 with a wrong MIC", test.cell.node(0, 2), 0);
        test.cell.go(20);
        test.put(true, 1, 0, hand(2, nonce, ptk));
        CHECKS.due("HAND 2, by that NONCE", test.cell.node(0, 2), 1);
        test.cell.go(8);
        byte[] want = Reference.withFcs(Reference.join(Reference.header(8, 2, 1, 0, 0, 16 * 3),
                hand(3, Cells.nonce(0), ptk)));
        CHECKS.due("HAND 3", Cells.frame(test.cell, 0), want);
        CHECKS.due("joined until HAND 4", test.cell.node(1, 1), 3);
    }

    private static void hand2AsNoHand() {
        byte[] nonce = Reference.longs(9, 8, 7, 6);
        byte[] right = hand(2, nonce, Reference.ptk(Cells.secret(1), 1, Cells.nonce(0), nonce));
        byte[] otherHead = right.clone();
        otherHead[7] ^= 1;
        byte[] otherNumber = right.clone();
        otherNumber[8] = 3;
        byte[] hand0 = right.clone();
        hand0[8] = 0;
        byte[] hand5 = right.clone();
        hand5[8] = 5;
        byte[] hand255 = right.clone();
        hand255[8] = -1;
        int[] flags = {5, 3, 0, 2, 1, 1, 1, 1, 1, 1, 1, 1, 1, 1, 9};
        int[] parts = {0, 0, 0, 0, 1, 0, 0, 0, 0, 0, 0, 0, 0, 0, 0};
        byte[][] bodies = {right, right, right, right, right, otherHead, otherNumber, hand0, hand5, hand255,
            new byte[0], HEAD, java.util.Arrays.copyOf(right, right.length + 1),
            java.util.Arrays.copyOf(right, right.length - 1), right};
        HandTest test = joined();
        for (int i = 0; i < bodies.length; i++) {
            test.put(true, flags[i], parts[i], bodies[i]);
            boolean isHand = i == bodies.length - 1;
            CHECKS.due("HAND 2 otherwise, " + i, test.cell.node(0, 2), isHand ? 1 : 0);
            test.cell.go(20);
        }
    }

    private static void hand4AtAp() {
        byte[] nonce = Reference.longs(9, 8, 7, 6);
        byte[] ptk = Reference.ptk(Cells.secret(1), 1, Cells.nonce(0), nonce);
        HandTest test = joined();
        test.put(true, 1, 0, hand(4, new byte[0], new byte[48]));
        CHECKS.due("HAND 4 without TRIED", test.cell.node(1, 1), 3);
        test.cell.go(20);
        test.put(true, 1, 0, hand(2, nonce, ptk));
        test.cell.limit(1);
        test.cell.noise(test.cell.count(0) + 6, test.cell.count(0) + 30);
        test.cell.go(40);
        byte[] wrongMic = hand(4, new byte[0], ptk);
        wrongMic[10] ^= 4;
        test.put(true, 1, 0, wrongMic);
        CHECKS.due("HAND 4 with a wrong MIC", test.cell.node(1, 1), 3);
        test.cell.go(20);
        test.put(true, 1, 0, hand(4, new byte[0], ptk));
        CHECKS.due("HAND 4", test.cell.node(1, 1), 4);
        CHECKS.due("the AP's TK", Cells.key(test.cell, 1, 1), Reference.tk(ptk));
        CHECKS.due("the station is where it was", test.cell.node(1, 0), 3);
    }

    private static void hand1AtStation() {
        byte[] nonce = Reference.longs(4, 3, 2, 1);
        byte[] ptk = Reference.ptk(Cells.secret(1), 1, nonce, Cells.nonce(1));
        HandTest test = joined();
        test.put(false, 1, 0, hand(1, nonce, null));
        CHECKS.due("HAND 1 that goes the other way", test.cell.node(1, 2), 0);
        test.cell.go(20);
        test.put(false, 2, 0, hand(1, nonce, null));
        CHECKS.due("HAND 2 is QUEUED", test.cell.node(1, 2), 1);
        test.cell.go(8);
        CHECKS.due("HAND 2", Cells.frame(test.cell, 0), Reference.withFcs(Reference.join(
                Reference.header(8, 1, 0, 1, 0, 16 * 2), hand(2, Cells.nonce(1), ptk))));
    }

    private static void hand3AtStation() {
        byte[] nonce = Reference.longs(4, 3, 2, 1);
        byte[] otherNonce = Reference.longs(4, 3, 2, 0);
        byte[] ptk = Reference.ptk(Cells.secret(1), 1, nonce, Cells.nonce(1));
        HandTest test = joined();
        test.put(false, 2, 0, hand(3, nonce, ptk));
        CHECKS.due("HAND 3 without TRIED", test.cell.node(1, 0), 3);
        test.cell.go(20);
        test.put(false, 2, 0, hand(1, nonce, null));
        test.cell.go(40);
        CHECKS.due("HAND 2 was sent", test.cell.node(1, 2), 0);
        test.put(false, 2, 0, hand(3, otherNonce, ptk));
        CHECKS.due("HAND 3 for another NONCE", test.cell.node(1, 0), 3);
        test.cell.go(20);
        byte[] wrongMic = hand(3, nonce, ptk);
        wrongMic[41] ^= 1;
        test.put(false, 2, 0, wrongMic);
        CHECKS.due("HAND 3 with a wrong MIC", test.cell.node(1, 0), 3);
        test.cell.go(20);
        test.put(false, 2, 0, hand(3, nonce, ptk));
        CHECKS.due("HAND 3", test.cell.node(1, 0), 4);
        CHECKS.due("the TK", Cells.key(test.cell, 1, 0), Reference.tk(ptk));
        CHECKS.due("HAND 4 is QUEUED", test.cell.node(1, 2), 1);
        test.cell.go(8);
        CHECKS.due("HAND 4", Cells.frame(test.cell, 0), Reference.withFcs(Reference.join(
                Reference.header(8, 1, 0, 1, 0, 16 * 3), hand(4, new byte[0], ptk))));
    }

    /** HAND 3, heard once more, keys anew: PN begins at 1 again, and PN taken at 0. */
    private static void keyedAnew() {
        HandTest test = new HandTest(Cells.keyed(1));
        WirelessCell cell = test.cell;
        Cells.say(cell, 1, 0, 10);
        cell.go(50);
        Cells.say(cell, 0, 1, 10);
        cell.go(50);
        CHECKS.due("said and heard", cell.node(0, 8) + cell.node(1, 8), 2);
        byte[] fromAp = Cells.frame(cell, 1);
        test.put(false, 2, 0, hand(3, Cells.nonce(0), Cells.ptk(1)));
        cell.go(60);
        CHECKS.due("keyed", cell.node(1, 0), 4);
        CHECKS.due("HAND 4 was said again", cell.node(1, 7), 6);
        Cells.putNow(cell, fromAp, 20);
        CHECKS.due("an old sealed FRAME is taken again", cell.node(1, 8), 2);
        CHECKS.due("nothing is dropped", cell.node(1, 10), 0);
        Cells.say(cell, 1, 0, 11);
        cell.go(40);
        CHECKS.due("the station's PN is 1 again", Reference.pn(Cells.frame(cell, 1)), 1);
        CHECKS.due("the AP was keyed anew by HAND 4, too", cell.node(0, 8), 2);
    }

    /** Part 0 of what is said, sealed, from the station or from the AP. */
    private void putSealed(boolean toAp, int part, long pn, byte[] text) {
        byte[] header = Reference.header(8, (toAp ? 65 : 66) + (part == 0 ? 4 : 0), toAp ? 0 : 1, toAp ? 1 : 0, 0,
                part + 16 * 3000);
        Cells.putNow(cell, Reference.sealedFrame(header, pn, Cells.tk(1), text), 20);
    }

    private static void keyedAnewForgetsParts() {
        byte[] said = Reference.bytes(170, 170, 3, 0, 0, 0, 8, 0);
        for (int again = 0; again < 2; again++) {
            HandTest test = new HandTest(Cells.keyed(1));
            test.putSealed(false, 0, 50, said);
            test.putSealed(true, 0, 50, said);
            if (again == 1) {
                test.put(false, 2, 0, hand(3, Cells.nonce(0), Cells.ptk(1)));
                test.cell.go(60);
            }
            test.putSealed(false, 1, 51, new byte[5]);
            test.putSealed(true, 1, 51, new byte[5]);
            CHECKS.due("DELIVERED at 1, keyed anew " + again, test.cell.node(1, 8), 1 - again);
            CHECKS.due("DELIVERED at the AP, keyed anew " + again, test.cell.node(0, 8), 1 - again);
            CHECKS.due("dropped at 1", test.cell.node(1, 10), again);
            CHECKS.due("dropped at the AP", test.cell.node(0, 10), again);
        }
    }

    private static void withoutKeyForgetsParts() {
        byte[] said = Reference.bytes(170, 170, 3, 0, 0, 0, 8, 0);
        HandTest test = new HandTest(Cells.keyed(1));
        test.putSealed(false, 0, 50, said);
        test.cell.join(1);
        test.cell.go(200);
        CHECKS.due("keyed again, by the same TK", Cells.key(test.cell, 1, 0), Cells.tk(1));
        test.putSealed(false, 1, 51, new byte[5]);
        CHECKS.due("the part is dropped", test.cell.node(1, 10), 1);
        CHECKS.due("nothing is DELIVERED", test.cell.node(1, 8), 0);
    }

    private static void lostKeyLosesTried() {
        HandTest test = new HandTest(Cells.keyed(1));
        WirelessCell cell = test.cell;
        byte[] ask = Reference.withFcs(Reference.join(Reference.header(0, 0, 0, 1, 0, 16 * 900),
                Reference.bytes(1, 0, 10, 0)));
        cell.limit(1);
        Cells.putNow(cell, ask, 3);
        cell.noise(cell.count(0) + 5, cell.count(0) + 60);
        cell.go(70);
        CHECKS.due("joined at the AP", cell.node(1, 1), 3);
        test.put(true, 1, 0, hand(4, new byte[0], Cells.ptk(1)));
        CHECKS.due("HAND 4 has no TRIED", cell.node(1, 1), 3);
    }

    private static void handsOfOtherStates() {
        HandTest test = new HandTest(new WirelessCell());
        test.put(false, 2, 0, hand(1, new byte[32], null));
        CHECKS.due("HAND 1 at none", test.cell.node(1, 2), 0);
        test.cell.go(20);
        byte[] ptk = Reference.ptk(new byte[32], 1, new byte[32], new byte[32]);
        test.put(true, 1, 0, hand(2, new byte[32], ptk));
        CHECKS.due("HAND 2 of none", test.cell.node(0, 2), 0);
        test.cell.go(20);
        byte[] auth = Reference.withFcs(Reference.join(Reference.header(176, 0, 0, 1, 0, 0),
                Reference.bytes(0, 0, 1, 0, 0, 0)));
        Cells.putNow(test.cell, auth, 60);
        CHECKS.due("known at the AP", test.cell.node(1, 1), 2);
        test.put(true, 1, 0, hand(2, new byte[32], ptk));
        CHECKS.due("HAND 2 of known", test.cell.node(0, 2), 0);
    }

    private static void handsInParts() {
        WirelessCell cell = new WirelessCell();
        cell.size(40);
        cell.join(1);
        CHECKS.due("HAND 1 has 41 bytes: two parts", cell.go(300), 12);
        CHECKS.due("joined", cell.node(1, 0), 3);
        WirelessCell whole = new WirelessCell();
        whole.size(57);
        whole.join(1);
        whole.go(300);
        CHECKS.due("57 bytes at once are enough", whole.node(1, 1), 4);
        WirelessCell cut = new WirelessCell();
        cut.size(56);
        cut.join(1);
        CHECKS.due("HAND 2 in two parts", cut.go(300), 14);
        CHECKS.due("joined", cut.node(1, 1), 3);
    }
}
