import java.util.Arrays;

/** Promises 18, 20 and 23, submit, ended and delivered, and SEALED and TAKEN (sections II and V). */
public final class SealTest {
    private static final Checks CHECKS = new Checks();
    private static final byte[] HEAD = Reference.bytes(170, 170, 3, 0, 0, 0, 8, 0);

    private final WirelessCell cell;
    private long pn = 100;
    private int sequence = 1000;

    private SealTest(WirelessCell cell) {
        this.cell = cell;
    }

    public static void main(String[] args) {
        submitWrongly();
        submitTwoHundred();
        endsOfSubmissions();
        endsWithoutKey();
        lostAndNotKeyed();
        sealedFrames();
        sealedParts();
        manyParts();
        sealedFromAp();
        passedOn();
        notPassedOn();
        delivered();
        deliveredKeepsTwelve();
        sentAgain();
        latestOfEachSpeaker();
        sealsDropped();
        highNumbers();
        partsInOrder();
        longMessages();
        otherMessages();
        sealedWithoutKey();
        sentAgainIsTheSame();
        CHECKS.finish();
    }

    // ---- what was said

    private static void submitWrongly() {
        WirelessCell cell = Cells.keyed(2);
        Cells.load(cell, Cells.said(201));
        CHECKS.due("201 bytes", cell.submit(1, 0), -1);
        CHECKS.due("the TAPE stays", cell.count(4), 201);
        cell.end(200);
        int[][] wrong = {{1, 1}, {0, 0}, {9, 0}, {0, 9}, {-1, 0}, {0, -1}, {Integer.MIN_VALUE, 1},
            {1, Integer.MAX_VALUE}};
        for (int[] pair : wrong) {
            CHECKS.due("submit(" + pair[0] + ", " + pair[1] + ")", cell.submit(pair[0], pair[1]), -1);
        }
        CHECKS.due("the TAPE stays", cell.count(4), 200);
        CHECKS.due("no SUBMISSION", cell.count(5), 0);
        CHECKS.due("ended(0)", cell.ended(0), -1);
        CHECKS.due("200 bytes", cell.submit(1, 0), 0);
        CHECKS.due("the TAPE is empty", cell.count(4), 0);
        CHECKS.due("nothing said", cell.submit(0, 2), 1);
        CHECKS.due("SUBMISSIONS", cell.count(5), 2);
        CHECKS.due("under way", cell.ended(0), 0);
        CHECKS.due("under way", cell.ended(1), 0);
        CHECKS.due("ended(2)", cell.ended(2), -1);
        CHECKS.due("ended(-1)", cell.ended(-1), -1);
        CHECKS.due("ended(MAX)", cell.ended(Integer.MAX_VALUE), -1);
    }

    private static void submitTwoHundred() {
        WirelessCell cell = new WirelessCell();
        for (int i = 0; i < 200; i++) {
            CHECKS.due("submit", cell.submit(1, 2), i);
        }
        cell.feed(1, 2, 3, 4, 5);
        CHECKS.due("the 201st", cell.submit(1, 2), -1);
        CHECKS.due("the TAPE stays", cell.count(4), 20);
        CHECKS.due("not keyed", cell.ended(199), 4);
        CHECKS.due("ended(200)", cell.ended(200), -1);
    }

    private static void endsOfSubmissions() {
        WirelessCell cell = Cells.keyed(1);
        Cells.say(cell, 1, 0, 5);
        Cells.say(cell, 1, 0, 6);
        cell.go(3);
        CHECKS.due("under way", cell.ended(0), 0);
        cell.go(50);
        CHECKS.due("DONE", cell.ended(0), 1);
        CHECKS.due("DONE", cell.ended(1), 1);
        Cells.say(cell, 0, 1, 7);
        cell.noise(cell.count(0), cell.count(0) + 100);
        cell.go(90);
        CHECKS.due("GIVEN UP by tries", cell.ended(2), 2);
        cell.go(20);
        for (int i = 0; i < 14; i++) {
            Cells.say(cell, 1, 0, i);
            CHECKS.due("QUEUED or lost", cell.ended(3 + i), i < 12 ? 0 : 3);
        }
        CHECKS.due("twelve are QUEUED", cell.node(1, 2), 12);
        cell.go(600);
        CHECKS.due("the twelfth", cell.ended(14), 1);
        CHECKS.due("a lost one stays lost", cell.ended(15), 3);
    }

    private static void endsWithoutKey() {
        WirelessCell cell = Cells.keyed(1);
        Cells.say(cell, 1, 0, 5);
        cell.leave(1, 3);
        int before = cell.count(1);
        CHECKS.due("nothing is sent in this slot", cell.go(1), 0);
        CHECKS.due("GIVEN UP without a key", cell.ended(0), 5);
        CHECKS.due("END is next", cell.node(1, 2), 1);
        CHECKS.due("END and its ACK", cell.go(30), 2);
        CHECKS.due("END began in the slot behind", cell.air(1, 0) - cell.count(0), -30);
        CHECKS.due("FRAMES", cell.count(1) - before, 2);
        WirelessCell atAp = Cells.keyed(1);
        atAp.draw(7);
        Cells.say(atAp, 0, 1, 5);
        atAp.join(1);
        atAp.go(80);
        CHECKS.due("the AP's key, as it has it", atAp.ended(0), 5);
        WirelessCell between = Cells.keyed(1);
        between.size(16);
        Cells.say(between, 1, 0, 30);
        between.go(6);
        between.leave(1, 3);
        between.go(10);
        CHECKS.due("the second part finds no key", between.ended(0), 5);
    }

    private static void lostAndNotKeyed() {
        WirelessCell cell = Cells.keyed(1);
        for (int i = 0; i < 12; i++) {
            cell.submit(1, 0);
        }
        cell.submit(1, 0);
        CHECKS.due("lost", cell.ended(12), 3);
        cell.join(1);
        cell.submit(1, 0);
        CHECKS.due("not keyed comes first", cell.ended(13), 4);
        CHECKS.due("the AP has it keyed", cell.submit(0, 1), 14);
        CHECKS.due("so it is under way", cell.ended(14), 0);
        CHECKS.due("what is lost has no number", cell.node(1, 7), 4 + 12);
    }

    private static void sealedFrames() {
        WirelessCell cell = Cells.keyed(3);
        int[] lengths = {0, 1, 8, 9, 24, 200};
        for (int i = 0; i < lengths.length; i++) {
            Cells.say(cell, 3, 0, lengths[i]);
            cell.go(60);
            byte[] frame = Cells.frame(cell, 1);
            byte[] header = Reference.header(8, 65, 0, 3, 0, 16 * (4 + i));
            byte[] message = Reference.join(HEAD, Cells.said(lengths[i]));
            CHECKS.due("said " + lengths[i], frame, Reference.sealedFrame(header, 1 + i, Cells.tk(3), message));
            CHECKS.due("DELIVERED", Cells.delivered(cell, 0, i), Cells.said(lengths[i]));
            CHECKS.due("from", cell.delivered(0, i, 0), 3);
        }
    }

    private static void sealedParts() {
        WirelessCell cell = Cells.keyed(1);
        cell.size(16);
        Cells.say(cell, 1, 0, 40);
        cell.go(100);
        byte[] message = Reference.join(HEAD, Cells.said(40));
        for (int part = 0; part < 3; part++) {
            byte[] header = Reference.header(8, part < 2 ? 69 : 65, 0, 1, 0, part + 16 * 4);
            byte[] cut = Arrays.copyOfRange(message, 16 * part, 16 * part + 16);
            CHECKS.due("part " + part, Cells.frame(cell, 5 - 2 * part),
                    Reference.sealedFrame(header, 1 + part, Cells.tk(1), cut));
        }
        CHECKS.due("DELIVERED", Cells.delivered(cell, 0, 0), Cells.said(40));
        CHECKS.due("parts follow an ACK by the slot after next", cell.air(3, 0), cell.air(4, 0) + 2 + 2);
    }

    private static void manyParts() {
        WirelessCell cell = Cells.keyed(1);
        cell.size(16);
        for (int i = 0; i < 21; i++) {
            Cells.say(cell, 1, 0, 200);
            cell.go(200);
            CHECKS.due("PN of the last part", Reference.pn(Cells.frame(cell, 1)), 13 * (i + 1));
        }
        CHECKS.due("P1 counts, too", cell.air(1, 10 + 25), 1);
        CHECKS.due("all is DELIVERED", cell.node(0, 8), 21);
    }

    private static void sealedFromAp() {
        WirelessCell cell = Cells.keyed(2);
        Cells.say(cell, 0, 2, 33);
        cell.go(60);
        byte[] header = Reference.header(8, 66, 2, 0, 0, 16 * 8);
        CHECKS.due("from the AP", Cells.frame(cell, 1),
                Reference.sealedFrame(header, 1, Cells.tk(2), Reference.join(HEAD, Cells.said(33))));
        CHECKS.due("DELIVERED", Cells.delivered(cell, 2, 0), Cells.said(33));
        CHECKS.due("from", cell.delivered(2, 0, 0), 0);
        CHECKS.due("nobody else", cell.node(1, 8) + cell.node(0, 8), 0);
    }

    private static void passedOn() {
        WirelessCell cell = Cells.keyed(2);
        Cells.say(cell, 1, 2, 21);
        cell.go(14);
        CHECKS.due("DONE by the node that said it", cell.ended(0), 1);
        CHECKS.due("not there yet", cell.node(2, 8), 0);
        CHECKS.due("QUEUED at the AP", cell.node(0, 2), 1);
        cell.size(16);
        cell.go(60);
        byte[] said = Reference.join(HEAD, Cells.said(21));
        CHECKS.due("to the AP", Cells.frame(cell, 3), Reference.sealedFrame(
                Reference.header(8, 65, 0, 1, 2, 16 * 4), 1, Cells.tk(1), said));
        CHECKS.due("from the AP", Cells.frame(cell, 1), Reference.sealedFrame(
                Reference.header(8, 66, 2, 0, 1, 16 * 8), 1, Cells.tk(2), said));
        CHECKS.due("DELIVERED", Cells.delivered(cell, 2, 0), Cells.said(21));
        CHECKS.due("from who said it", cell.delivered(2, 0, 0), 1);
        CHECKS.due("not at the AP", cell.node(0, 8), 0);
    }

    private static void notPassedOn() {
        WirelessCell cell = Cells.keyed(2);
        Cells.say(cell, 1, 3, 21);
        cell.go(60);
        CHECKS.due("DONE, as the AP took it", cell.ended(0), 1);
        CHECKS.due("3 is not keyed", cell.node(0, 7), 8);
        CHECKS.due("nothing is dropped", cell.node(0, 10), 0);
        Cells.say(cell, 1, 2, 21);
        cell.leave(2, 3);
        cell.go(100);
        CHECKS.due("as the AP has it", cell.node(2, 8), 0);
        SealTest test = new SealTest(Cells.keyed(2));
        test.putToAp(1, 65, 0, 1, Reference.join(HEAD, Cells.said(3)));
        CHECKS.due("for itself", test.cell.node(0, 7), 8);
        test.putToAp(1, 65, 0, 9, Reference.join(HEAD, Cells.said(3)));
        CHECKS.due("for no node", test.cell.node(0, 7), 8);
        CHECKS.due("these are not dropped", test.cell.node(0, 10), 0);
        test.putToAp(1, 65, 0, 2, Reference.join(HEAD, Cells.said(3)));
        CHECKS.due("for another one", test.cell.node(0, 7), 9);
    }

    private static void delivered() {
        WirelessCell cell = Cells.keyed(1);
        CHECKS.due("none yet", cell.delivered(0, 0, 0), -1);
        Cells.say(cell, 1, 0, 3);
        cell.go(40);
        CHECKS.due("from", cell.delivered(0, 0, 0), 1);
        CHECKS.due("bytes", cell.delivered(0, 0, 1), 3);
        int[] none = {Integer.MIN_VALUE, -1, 2, 9, 13, 14, Integer.MAX_VALUE};
        for (int what : none) {
            CHECKS.due("what " + what, cell.delivered(0, 0, what), -1);
        }
        for (int k = 0; k < 3; k++) {
            CHECKS.due("byte " + k, cell.delivered(0, 0, 10 + k), Cells.said(3)[k] & 255);
        }
        CHECKS.due("i 1", cell.delivered(0, 1, 0), -1);
        CHECKS.due("i -1", cell.delivered(0, -1, 0), -1);
        CHECKS.due("node -1", cell.delivered(-1, 0, 0), -1);
        CHECKS.due("node 9", cell.delivered(9, 0, 0), -1);
    }

    private static void deliveredKeepsTwelve() {
        WirelessCell cell = Cells.keyed(1);
        for (int i = 0; i < 14; i++) {
            Cells.say(cell, 0, 1, i);
            cell.go(40);
        }
        CHECKS.due("DELIVERED", cell.node(1, 8), 14);
        for (int i = 0; i < 14; i++) {
            CHECKS.due("the first twelve are kept", cell.delivered(1, i, 1), i < 12 ? i : -1);
        }
    }

    // ---- what others put

    private void putToAp(int station, int flags, int part, int third, byte[] text) {
        byte[] header = Reference.header(8, flags, 0, station, third, part + 16 * sequence);
        Cells.putNow(cell, Reference.sealedFrame(header, pn, Cells.tk(station), text), 40);
        pn++;
    }

    private void due(String what, int dropped, int delivered) {
        CHECKS.due(what + ": dropped", cell.node(0, 10), dropped);
        CHECKS.due(what + ": DELIVERED", cell.node(0, 8), delivered);
    }

    private static void sentAgain() {
        WirelessCell cell = Cells.keyed(1);
        Cells.say(cell, 1, 0, 5);
        cell.go(40);
        byte[] frame = Cells.frame(cell, 1);
        byte[] again = frame.clone();
        again[1] |= 8;
        again = Reference.withFcs(Arrays.copyOf(again, again.length - 4));
        CHECKS.due("sent again: an ACK all the same", Cells.putNow(cell, again, 40), 2);
        CHECKS.due("dropped as sent again", cell.node(0, 9), 1);
        CHECKS.due("not as a seal", cell.node(0, 10), 0);
        Cells.putNow(cell, frame, 40);
        CHECKS.due("not said to be sent again", cell.node(0, 9), 1);
        CHECKS.due("dropped by its PN", cell.node(0, 10), 1);
        byte[] otherPart = again.clone();
        otherPart[22] ^= 1;
        Cells.putNow(cell, Reference.withFcs(Arrays.copyOf(otherPart, otherPart.length - 4)), 40);
        CHECKS.due("another SC", cell.node(0, 9), 1);
        Cells.putNow(cell, again, 40);
        CHECKS.due("the latest SC is that other one", cell.node(0, 9), 1);
        Cells.putNow(cell, again, 40);
        CHECKS.due("now it is the latest one", cell.node(0, 9), 2);
        CHECKS.due("DELIVERED once", cell.node(0, 8), 1);
    }

    private static void latestOfEachSpeaker() {
        WirelessCell cell = new WirelessCell();
        byte[] first = auth(1, 0);
        byte[] again = auth(1, 8);
        Cells.putNow(cell, again, 60);
        CHECKS.due("nothing came ahead of it", cell.node(0, 9), 0);
        CHECKS.due("it is taken", cell.node(1, 1), 2);
        Cells.putNow(cell, auth(2, 8), 60);
        CHECKS.due("another speaker", cell.node(0, 9), 0);
        Cells.putNow(cell, again, 60);
        CHECKS.due("the same", cell.node(0, 9), 1);
        Cells.putNow(cell, first, 60);
        CHECKS.due("not sent again", cell.node(0, 9), 1);
        byte[] otherHigh = java.util.Arrays.copyOf(again, again.length - 4);
        otherHigh[23] ^= 1;
        Cells.putNow(cell, Reference.withFcs(otherHigh), 60);
        CHECKS.due("another high byte of SC", cell.node(0, 9), 1);
        Cells.putNow(cell, auth(9, 8), 60);
        Cells.putNow(cell, auth(9, 8), 60);
        CHECKS.due("no node", cell.node(0, 9), 1);
        Cells.putNow(cell, auth(0, 8), 60);
        Cells.putNow(cell, auth(0, 8), 60);
        CHECKS.due("the AP's own ADDRESS is a node's, too", cell.node(0, 9), 2);
    }

    private static byte[] auth(int from, int flags) {
        return Reference.withFcs(Reference.join(Reference.header(176, flags, 0, from, 0, 16 * 77),
                Reference.bytes(0, 0, 1, 0, 0, 0)));
    }

    private static byte[] refcs(byte[] frame, int at, int mask) {
        byte[] row = Arrays.copyOf(frame, frame.length - 4);
        row[at] ^= (byte) mask;
        return Reference.withFcs(row);
    }

    private static void sealsDropped() {
        SealTest test = new SealTest(Cells.keyed(1));
        byte[] text = Reference.join(HEAD, Cells.said(4));
        byte[] header = Reference.header(8, 65, 0, 1, 0, 16 * 1000);
        byte[] right = Reference.sealedFrame(header, 100, Cells.tk(1), text);
        int dropped = 0;
        int[][] alterations = {{26, 1}, {27, 1}, {32, 1}, {43, 128}, {44, 1}, {51, 1}, {24, 1}, {31, 1}, {1, 4},
            {21, 1}, {22, 1}};
        for (int[] alteration : alterations) {
            Cells.putNow(test.cell, refcs(right, alteration[0], alteration[1]), 40);
            dropped++;
            test.due("byte " + alteration[0] + " altered", dropped, 0);
        }
        Cells.putNow(test.cell, Reference.withFcs(Reference.join(header, new byte[15])), 40);
        dropped++;
        test.due("15 bytes behind SC", dropped, 0);
        Cells.putNow(test.cell, Reference.withFcs(header), 40);
        dropped++;
        test.due("none behind SC", dropped, 0);
        Cells.putNow(test.cell, refcs(right, 23, 1), 40);
        test.due("the sequence number is not sealed", dropped, 1);
        Cells.putNow(test.cell, right, 40);
        dropped++;
        test.due("the same PN", dropped, 1);
        Cells.putNow(test.cell, Reference.sealedFrame(header, 99, Cells.tk(1), text), 40);
        dropped++;
        test.due("a PN below", dropped, 1);
        Cells.putNow(test.cell, Reference.sealedFrame(header, 101, Cells.tk(1), text), 40);
        test.due("a PN above", dropped, 2);
        Cells.putNow(test.cell, refcs(Reference.sealedFrame(header, 102, Cells.tk(1), text), 1, 8), 40);
        CHECKS.due("sent again, its SC is the latest", test.cell.node(0, 9), 1);
        byte[] other = Reference.header(8, 65, 0, 1, 0, 16 * 1001);
        Cells.putNow(test.cell, refcs(Reference.sealedFrame(other, 102, Cells.tk(1), text), 1, 8), 40);
        test.due("8 is not sealed", dropped, 3);
    }

    private static void highNumbers() {
        SealTest test = new SealTest(Cells.keyed(1));
        byte[] text = Reference.join(HEAD, Cells.said(4));
        long[] numbers = {255, 256, 65535, 65536, 0x010203040506L, 0xFFFFFFFFFFFEL, 0xFFFFFFFFFFFFL};
        for (int i = 0; i < numbers.length; i++) {
            test.pn = numbers[i];
            test.putToAp(1, 65, 0, 0, text);
            test.due("PN " + numbers[i], 0, i + 1);
        }
        test.pn = 0x7FFFFFFFFFFFL;
        test.putToAp(1, 65, 0, 0, text);
        test.due("a PN below", 1, numbers.length);
        SealTest zero = new SealTest(Cells.keyed(1));
        zero.pn = 0;
        zero.putToAp(1, 65, 0, 0, text);
        zero.due("PN 0 is not above the one taken last", 1, 0);
    }

    private static void partsInOrder() {
        SealTest test = new SealTest(Cells.keyed(1));
        test.putToAp(1, 65, 1, 0, Cells.said(9));
        test.due("part 1 without a MESSAGE", 1, 0);
        test.putToAp(1, 69, 0, 0, HEAD);
        test.putToAp(1, 69, 2, 0, Cells.said(9));
        test.due("part 2 behind part 0", 2, 0);
        test.putToAp(1, 65, 1, 0, Cells.said(9));
        test.due("that MESSAGE is dropped, too", 3, 0);
        test.putToAp(1, 69, 0, 0, HEAD);
        test.sequence++;
        test.putToAp(1, 65, 1, 0, Cells.said(9));
        test.due("part 1 of another sequence number", 4, 0);
        test.putToAp(1, 69, 0, 0, HEAD);
        test.sequence += 256;
        test.putToAp(1, 65, 1, 0, Cells.said(9));
        test.due("part 1 of a sequence number with another high byte", 5, 0);
        test.putToAp(1, 69, 0, 0, Reference.bytes(1, 2, 3));
        test.putToAp(1, 69, 0, 0, HEAD);
        test.putToAp(1, 69, 1, 3, Cells.said(9));
        test.putToAp(1, 69, 2, 3, new byte[0]);
        test.due("part 0 begins anew", 5, 0);
        test.putToAp(1, 65, 3, 0, Cells.said(2));
        test.due("whole, A3 is that of its last part", 5, 1);
        CHECKS.due("all parts", Cells.delivered(test.cell, 0, 0), Reference.join(Cells.said(9), Cells.said(2)));
        test.putToAp(1, 65, 4, 0, Cells.said(2));
        test.due("behind the whole one", 6, 1);
        test.putToAp(1, 69, 0, 0, HEAD);
        for (int part = 1; part < 15; part++) {
            test.putToAp(1, 69, part, 0, Reference.bytes(part));
        }
        test.putToAp(1, 65, 15, 0, Reference.bytes(15));
        test.due("sixteen parts", 6, 2);
        CHECKS.due("their bytes", test.cell.delivered(0, 1, 1), 15);
    }

    private static void longMessages() {
        SealTest test = new SealTest(Cells.keyed(1));
        test.putToAp(1, 65, 0, 0, Reference.join(HEAD, Cells.said(200)));
        test.due("208 bytes", 0, 1);
        test.putToAp(1, 65, 0, 0, Reference.join(HEAD, Cells.said(201)));
        test.due("209 bytes", 1, 1);
        test.putToAp(1, 65, 0, 0, Reference.join(HEAD, Cells.said(248)));
        test.due("256 bytes, the most that a FRAME has", 2, 1);
        test.pn--;
        test.putToAp(1, 65, 0, 0, HEAD);
        test.due("its PN was taken all the same", 3, 1);
        test.putToAp(1, 69, 0, 0, Reference.join(HEAD, Cells.said(192)));
        test.putToAp(1, 69, 1, 0, Cells.said(8));
        test.due("208 so far", 3, 1);
        test.putToAp(1, 69, 2, 0, Cells.said(1));
        test.due("it grows beyond", 4, 1);
        test.putToAp(1, 65, 3, 0, new byte[0]);
        test.due("and was dropped", 5, 1);
    }

    private static void otherMessages() {
        SealTest test = new SealTest(Cells.keyed(1));
        test.putToAp(1, 65, 0, 0, Arrays.copyOf(HEAD, 7));
        test.putToAp(1, 65, 0, 0, new byte[0]);
        test.putToAp(1, 65, 0, 0, Reference.bytes(170, 170, 3, 0, 0, 0, 136, 142, 4));
        test.putToAp(1, 65, 0, 0, Reference.bytes(170, 170, 3, 0, 0, 1, 8, 0, 4));
        test.due("MESSAGES that begin otherwise", 0, 0);
        test.putToAp(1, 65, 0, 0, HEAD);
        test.due("nothing said", 0, 1);
        CHECKS.due("no bytes", test.cell.delivered(0, 0, 1), 0);
        test.putToAp(1, 67, 0, 0, HEAD);
        test.putToAp(1, 64, 0, 0, HEAD);
        test.putToAp(1, 66, 0, 0, HEAD);
        test.due("both ways, neither, the other way", 0, 1);
        byte[] header = Reference.header(8, 66, 1, 0, 9, 16 * 1000);
        Cells.putNow(test.cell, Reference.sealedFrame(header, 500, Cells.tk(1), HEAD), 40);
        CHECKS.due("at a station, from no node", test.cell.node(1, 8), 0);
        byte[] from8 = Reference.header(8, 66, 1, 0, 8, 16 * 1000);
        Cells.putNow(test.cell, Reference.sealedFrame(from8, 501, Cells.tk(1), HEAD), 40);
        CHECKS.due("at a station, from 8", test.cell.delivered(1, 0, 0), 8);
        Cells.putNow(test.cell, Reference.sealedFrame(from8, 501, Cells.tk(1), HEAD), 40);
        CHECKS.due("dropped at a station", test.cell.node(1, 10), 1);
    }

    private static void sealedWithoutKey() {
        WirelessCell cell = new WirelessCell();
        byte[] toAp = Reference.withFcs(Reference.join(Reference.header(8, 65, 0, 4, 0, 0), new byte[20]));
        Cells.putNow(cell, toAp, 40);
        CHECKS.due("END 7", Cells.frame(cell, 1), Reference.withFcs(Reference.join(
                Reference.header(192, 0, 4, 0, 0, 0), Reference.bytes(7, 0))));
        CHECKS.due("not counted", cell.node(0, 10), 0);
        byte[] toStation = Reference.withFcs(Reference.join(Reference.header(8, 66, 4, 0, 0, 0), new byte[20]));
        CHECKS.due("an ACK alone", Cells.putNow(cell, toStation, 40), 2);
        CHECKS.due("not counted", cell.node(4, 10), 0);
    }

    /** A part that was sealed once stays as it is, whatever becomes of the key. */
    private static void sentAgainIsTheSame() {
        WirelessCell cell = Cells.keyed(1);
        Cells.say(cell, 1, 0, 5);
        cell.noise(cell.count(0), cell.count(0));
        cell.go(5);
        byte[] first = Cells.frame(cell, 0);
        cell.leave(1, 9);
        cell.go(16);
        CHECKS.due("the same again, its ACK, END", cell.count(1), 20);
        byte[] again = Cells.frame(cell, 2);
        CHECKS.due("the same, as sent again", again, refcs(first, 1, 8));
        CHECKS.due("DONE without a key", cell.ended(0), 1);
        CHECKS.due("DELIVERED", cell.node(0, 8), 1);
    }
}
