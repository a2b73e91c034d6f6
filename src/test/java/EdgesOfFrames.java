import java.util.Arrays;

/** 'Terms' I to III: FRAMES, SEALED and KEYS. */
final class EdgesOfFrames {
    private final Edges edges;

    EdgesOfFrames(Edges edges) {
        this.edges = edges;
    }

    void all() {
        edges.sentence("I", "0 the access point (AP), 1 .. 8 stations, all there, all hear all.", this::nodes);
        edges.sentence("I", "ADDRESS of node k: 2, 0, 0, 0, 0, k.", this::addresses);
        edges.sentence("I", "Bytes are 0 .. 255", this::bytesHaveNoSign);
        edges.sentence("I", "numbers of several bytes have the lowest first, but where told.", this::lowestFirst);
        edges.sentence("I", "SC (2: a part's number + 16 times a sequence number 0 .. 4095)", this::numbersInSc);
        edges.sentence("I", "of an ACK nothing more", this::ackHasNothingMore);
        edges.sentence("I", "FCS: CRC-32 (as in Ethernet) of all bytes ahead of it.", this::sumOfAllBytes);
        edges.sentence("I", "4 more parts follow", this::moreParts);
        edges.sentence("I", "Other FRAMES have A3 the AP's ADDRESS.", this::thirdAddresses);
        edges.sentence("I", "A FRAME of n bytes lasts 2 + n / 32 slots (n / 32 to the upper whole).", this::slots);
        edges.sentence("I", "AUTH: 0, 0, its step 1 (of stations) or 2 (of the AP), 0, 0, 0.", this::steps);
        edges.sentence("I", "GRANT: 1, 0, 0, 0, k, 192 (k the station).", this::grant);
        edges.sentence("I", "8, 0 and what was said.", this::nothingSaid);
        edges.sentence("I", "PARTS of a MESSAGE have SIZE bytes (16 .. 255; 255 at first;", this::sizes);
        edges.sentence("I", "the last one what is left)", this::lastPart);
        edges.sentence("I", "at most 16.", this::sixteenParts);
        edges.sentence("II", "SEALED is DATA of 8, 0 MESSAGES", this::handsAreNotSealed);
        edges.sentence("II", "each part by itself (CCMP)", this::partsAreSealedEach);
        edges.sentence("II", "1 for the first part that a node seals by a key, then one more each time",
                this::sealNumbers);
        edges.sentence("II", "PN, a number of six bytes, P0 its lowest", this::sixBytes);
        edges.sentence("II", "the part and a MIC of 8 bytes by CCM (RFC 3610, M 8, L 2)", this::blocks);
        edges.sentence("II", "FC without 8 (sent again)", this::sentAgainIsNotSealed);
        edges.sentence("II", "SC without its sequence number.", this::sequenceIsNotSealed);
        edges.sentence("III", "Each station has a SECRET of 32 bytes, and the AP one for each station",
                this::secretBytes);
        edges.sentence("III", "(all 0 at first, four longs, the highest byte first)", this::nonceBytes);
        edges.sentence("III", "the first 48 bytes of HMAC-SHA-1", this::ptkBytes);
        edges.sentence("III", "the AP's NONCE, the station's NONCE (here not by size)", this::noncesNotBySize);
        edges.sentence("III", "MIC: the first 16 bytes of HMAC-SHA-1 with KCK of what is ahead of it in the HAND.",
                this::micBytes);
    }

    // ---- I

    private void nodes() {
        Others others = new Others(new WirelessCell());
        for (int k = 0; k <= 8; k++) {
            edges.due("node " + k + " hears", others.acks(others.frame(Others.END, 0, k, 20, Others.ENDS)), 1);
            edges.due("its ACK", others.cell.air(0, 1), k);
        }
        int[] none = {9, 10, 128, 255};
        for (int k : none) {
            edges.due("node " + k, others.acks(others.frame(Others.END, 0, k, 0, Others.ENDS)), 0);
            others.put(others.frame(Others.AUTH, 0, 0, k, Others.AUTH_1));
            edges.due("the AP does nothing for " + k, others.cell.node(0, 7), 0);
            others.cell.go(6);
        }
        others.put(others.frame(Others.AUTH, 0, 0, 8, Others.AUTH_1));
        edges.due("the AP does something for 8", others.cell.node(0, 7), 1);
    }

    private void addresses() {
        Others others = Others.atAp(4);
        byte[] right = others.frame(Others.AUTH, 0, 0, 1, Others.AUTH_1);
        for (int i = 0; i < 6; i++) {
            int mask = i == 5 ? 16 : 1;
            edges.due("byte " + i + " of A1", others.acks(Others.altered(right, 4 + i, mask)), 0);
            edges.due("byte " + i + " of A2: an ACK", others.acks(Others.altered(right, 10 + i, mask)), 1);
            edges.due("and nothing else", others.stateAtAp(), 4);
        }
        for (int i = 0; i < 6; i++) {
            byte[] header = Reference.header(8, 65, 0, 1, 0, 16 * 50);
            header[16 + i] ^= (byte) (i == 5 ? 16 : 1);
            others.put(Reference.sealedFrame(header, 10 + i, Cells.tk(1), Others.said(1)));
            edges.due("byte " + i + " of A3", others.cell.node(0, 8), 0);
            others.cell.go(6);
        }
        others.put(Reference.sealedFrame(Reference.header(8, 65, 0, 1, 0, 16 * 50), 20, Cells.tk(1), Others.said(1)));
        edges.due("none of them", others.cell.node(0, 8), 1);
        others.cell.go(6);
        edges.due("none of them", others.acks(right), 1);
        edges.due("none of them", others.stateAtAp(), 2);
    }

    private void bytesHaveNoSign() {
        WirelessCell cell = Cells.keyed(1);
        Cells.load(cell, Reference.bytes(0, 127, 128, 255));
        edges.due("of the TAPE", cell.tape(3), 255);
        edges.due("altered", cell.alter(1, 255), 128);
        cell.submit(1, 0);
        cell.go(40);
        edges.due("DELIVERED", cell.delivered(0, 0, 10 + 3), 255);
        edges.due("DELIVERED", cell.delivered(0, 0, 10 + 1), 128);
        edges.due("of a FRAME", cell.air(0, 10), 212);
        for (int i = 0; i < 16; i++) {
            edges.due("of a TK", cell.key(1, 0, i), Cells.tk(1)[i] & 255);
        }
    }

    private void lowestFirst() {
        WirelessCell cell = new WirelessCell();
        for (int i = 0; i < 18; i++) {
            cell.leave(1, 0);
            cell.go(1);
            edges.due("SC, lowest byte, of number " + i, cell.air(0, 10 + 22), 16 * i % 256);
            edges.due("SC, highest byte, of number " + i, cell.air(0, 10 + 23), i / 16);
            cell.go(20);
        }
        Cells.load(cell, Reference.bytes('1', '2', '3', '4', '5', '6', '7', '8', '9'));
        cell.check();
        edges.due("FCS", cell.tape(9), 0x26);
        edges.due("FCS", cell.tape(12), 0xCB);
    }

    private void numbersInSc() {
        int[] numbers = {0, 15, 16, 255, 256, 4095};
        for (int number : numbers) {
            Others others = Others.atAp(4);
            others.sealedSequence = number;
            others.seal(69, 0, 0, Others.said(1));
            others.seal(69, 1, 0, Cells.said(1));
            others.sealedSequence = number ^ 1;
            others.seal(65, 2, 0, Cells.said(1));
            edges.due("sequence number " + number + " and another one", others.cell.node(0, 8), 0);
            others.sealedSequence = number;
            others.seal(69, 0, 0, Others.said(1));
            others.sealedSequence = number ^ 2048;
            others.seal(65, 1, 0, Cells.said(1));
            edges.due("sequence number " + number + " and one with another highest bit", others.cell.node(0, 8), 0);
            others.sealedSequence = number;
            others.seal(69, 0, 0, Others.said(1));
            others.seal(65, 1, 0, Cells.said(1));
            edges.due("sequence number " + number, others.cell.node(0, 8), 1);
        }
        WirelessCell cell = Cells.keyed(1);
        cell.size(16);
        Cells.say(cell, 1, 0, 200);
        cell.go(118);
        edges.due("the thirteenth part", cell.air(1, 10 + 22), 12 + 16 * 4);
    }

    private void ackHasNothingMore() {
        Others others = new Others(new WirelessCell());
        others.acks(others.frame(Others.END, 0, 8, 255, Others.ENDS));
        edges.due("the ACK", Cells.frame(others.cell, 0), Others.ack(255));
        edges.due("bytes", others.cell.air(0, 2), 14);
        edges.due("slots", others.cell.air(0, 3), 3);
    }

    private void sumOfAllBytes() {
        int[] lengths = {0, 1, 2, 10, 255, 296};
        for (int bytes : lengths) {
            WirelessCell cell = new WirelessCell();
            Cells.load(cell, Cells.said(bytes));
            cell.check();
            edges.due("of " + bytes, Cells.tape(cell), Reference.withFcs(Cells.said(bytes)));
        }
        Others others = new Others(new WirelessCell());
        byte[] right = others.frame(Others.END, 0, 1, 255, new byte[272]);
        int[] places = {0, 1, 2, 3, 15, 295};
        for (int at : places) {
            byte[] wrong = right.clone();
            wrong[at] ^= 8;
            edges.due("byte " + at + " is another one, FCS is not", others.acks(wrong), 0);
        }
        edges.due("all are as they were", others.acks(right), 1);
    }

    private void moreParts() {
        int[][] cases = {{8, 1}, {9, 2}, {24, 2}, {25, 3}};
        for (int[] each : cases) {
            WirelessCell cell = Cells.keyed(1);
            cell.size(16);
            Cells.say(cell, 1, 0, each[0]);
            edges.due("FRAMES of " + each[0] + " bytes said", cell.go(60), 2 * each[1]);
            for (int part = 0; part < each[1]; part++) {
                int more = part + 1 < each[1] ? 4 : 0;
                edges.due("part " + part, cell.air(2 * (each[1] - part) - 1, 10 + 1), 65 + more);
            }
        }
    }

    /** Behind twelve MESSAGES of stations for stations, so that a QUEUE's places were all used for these. */
    private void thirdAddresses() {
        WirelessCell cell = Cells.keyed(2);
        for (int i = 0; i < 12; i++) {
            cell.submit(1, 2);
            cell.go(40);
        }
        edges.due("DATA of a station", cell.air(3, 10 + 21), 2);
        edges.due("DATA of the AP", cell.air(1, 10 + 21), 1);
        cell.join(1);
        edges.due("FRAMES", cell.go(100), 16);
        for (int i = 1; i < 16; i += 2) {
            edges.due("A3 of FRAME " + i, cell.air(i, 10 + 16) * 256 + cell.air(i, 10 + 21), 512);
            edges.due("it is not sealed", cell.air(i, 10 + 1) & 64, 0);
        }
    }

    private void slots() {
        int[][] cases = {{1, 3}, {31, 3}, {32, 3}, {33, 4}, {63, 4}, {64, 4}, {65, 5}, {287, 11}, {288, 11}, {289, 12},
            {299, 12}, {300, 12}};
        for (int[] each : cases) {
            WirelessCell cell = new WirelessCell();
            Cells.putNow(cell, Cells.said(each[0]), each[1] - 1);
            edges.due(each[0] + " bytes", cell.air(0, 3), each[1]);
            edges.due("ahead of the last slot", cell.air(0, 4), 2);
            cell.go(1);
            edges.due("behind it", cell.air(0, 4), 1);
            edges.due("no slot was QUIET", cell.count(6), 0);
            cell.go(1);
            edges.due("the next one is", cell.count(6), 1);
        }
    }

    private void steps() {
        int[] steps = {0, 1, 2, 3, 128, 255};
        for (int step : steps) {
            byte[] body = Reference.bytes(0, 0, step, 0, 0, 0);
            Others ap = Others.atAp(1);
            ap.put(ap.frame(Others.AUTH, 0, 0, 1, body));
            edges.due("step " + step + " at the AP", ap.stateAtAp(), step == 1 ? 2 : 1);
            Others station = Others.atStation(1);
            station.put(station.frame(Others.AUTH, 0, 1, 0, body));
            edges.due("step " + step + " at a station", station.stateAtStation(), step == 2 ? 2 : 1);
        }
    }

    private void grant() {
        for (int k = 1; k <= 8; k++) {
            Others others = new Others(new WirelessCell());
            others.put(others.frame(Others.AUTH, 0, 0, k, Others.AUTH_1));
            others.lose();
            others.put(others.frame(Others.ASK, 0, 0, k, Others.ASKS));
            others.cell.go(9);
            edges.due("for station " + k, Cells.frame(others.cell, 0), Reference.withFcs(Reference.join(
                    Reference.header(16, 0, k, 0, 0, 16), Reference.bytes(1, 0, 0, 0, k, 192))));
        }
    }

    private void nothingSaid() {
        WirelessCell cell = Cells.keyed(1);
        cell.submit(1, 0);
        cell.go(1);
        edges.due("a part of 8 bytes", cell.air(0, 2), 44 + 8);
        edges.due("the MESSAGE", Reference.openFrame(Cells.frame(cell, 0), Cells.tk(1)), Others.HEAD_OF_SAID);
    }

    /** How many FRAMES 208 bytes are said in, ACKS aside, and how many bytes are in the last part. */
    private void dueParts(WirelessCell cell, int said, int parts, int last) {
        Cells.say(cell, 1, 0, said);
        edges.due("parts of " + said + " bytes said", cell.go(150), 2 * parts);
        edges.due("bytes in the last one", cell.air(1, 2) - 44, last);
        edges.due("all are DELIVERED", cell.delivered(0, cell.node(0, 8) - 1, 1), said);
    }

    private void sizes() {
        WirelessCell cell = Cells.keyed(1);
        dueParts(cell, 200, 1, 208);
        cell.size(16);
        dueParts(cell, 200, 13, 16);
        cell.size(17);
        dueParts(cell, 200, 13, 4);
        cell.size(207);
        dueParts(cell, 200, 2, 1);
        cell.size(208);
        dueParts(cell, 200, 1, 208);
        cell.size(255);
        dueParts(cell, 200, 1, 208);
    }

    private void lastPart() {
        WirelessCell cell = Cells.keyed(1);
        cell.size(100);
        dueParts(cell, 91, 1, 99);
        dueParts(cell, 92, 1, 100);
        dueParts(cell, 93, 2, 1);
        dueParts(cell, 191, 2, 99);
        dueParts(cell, 192, 2, 100);
        dueParts(cell, 193, 3, 1);
    }

    private void sixteenParts() {
        Others others = Others.atAp(4);
        others.seal(69, 0, 0, Others.said(1));
        for (int part = 1; part < 15; part++) {
            others.seal(69, part, 0, Reference.bytes(part));
        }
        others.seal(65, 15, 0, Reference.bytes(15));
        edges.due("sixteen are taken together", others.cell.node(0, 8), 1);
        edges.due("bytes", others.cell.delivered(0, 0, 1), 16);
        others.seal(69, 0, 0, Others.said(1));
        for (int part = 1; part < 16; part++) {
            others.seal(69, part, 0, Reference.bytes(part));
        }
        edges.due("the sixteenth with 4 makes nothing whole", others.cell.node(0, 8), 1);
        others.seal(65, 0, 0, Others.said(3));
        edges.due("behind it, part 0 begins anew", others.cell.delivered(0, 1, 1), 3);
    }

    // ---- II

    private void handsAreNotSealed() {
        Others others = Others.atStation(4);
        others.put(others.frame(Others.DATA, 2, 1, 0, Others.rightHand(1)));
        others.cell.go(9);
        edges.due("HAND 2 of a keyed station", others.cell.air(0, 10 + 1), 1);
        edges.due("bytes", others.cell.air(0, 2), 28 + 57);
    }

    private void partsAreSealedEach() {
        WirelessCell cell = Cells.keyed(1);
        cell.size(16);
        Cells.say(cell, 1, 0, 25);
        cell.go(40);
        byte[] message = Others.said(25);
        for (int part = 0; part < 3; part++) {
            byte[] want = Arrays.copyOfRange(message, 16 * part, Math.min(16 * part + 16, 33));
            edges.due("part " + part, Cells.frame(cell, 5 - 2 * part), Reference.sealedFrame(
                    Reference.header(8, part < 2 ? 69 : 65, 0, 1, 0, part + 16 * 4), 1 + part, Cells.tk(1), want));
        }
    }

    private void sealNumbers() {
        WirelessCell cell = Cells.keyed(2);
        cell.size(16);
        for (int i = 1; i <= 20; i++) {
            Cells.load(cell, new byte[200]);
            cell.submit(1, 0);
            if (i == 1) {
                cell.go(1);
                edges.due("the first part's", Reference.pn(Cells.frame(cell, 0)), 1);
            }
            cell.go(130);
            edges.due("the last part's of " + i, pn(cell), 13 * i);
        }
        edges.due("260 have a second byte", cell.air(1, 10 + 25), 1);
        Cells.say(cell, 0, 1, 0);
        cell.go(40);
        edges.due("the other side's first one", pn(cell), 1);
        Cells.say(cell, 0, 2, 0);
        cell.go(40);
        edges.due("by another key", pn(cell), 1);
        Cells.say(cell, 0, 1, 0);
        cell.go(40);
        edges.due("one more", pn(cell), 2);
    }

    /** PN of the FRAME ahead of the latest ACK. */
    private static long pn(WirelessCell cell) {
        long number = 0;
        for (int at : new int[] {31, 30, 29, 28, 25, 24}) {
            number = 256 * number + cell.air(1, 10 + at);
        }
        return number;
    }

    private void sixBytes() {
        Others others = Others.atAp(4);
        long number = 1;
        for (int i = 0; i < 6; i++) {
            others.sealBy(65, 0, 0, number, Others.said(i));
            edges.due("PN " + number, others.cell.node(0, 8), 2 * i + 1);
            others.sealBy(65, 0, 0, 256 * number - 1, Others.said(i));
            edges.due("PN " + (256 * number - 1), others.cell.node(0, 8), 2 * i + 2);
            others.sealBy(65, 0, 0, number, Others.said(i));
            edges.due("dropped, as it is lower", others.cell.node(0, 10), i + 1);
            number *= 256;
        }
    }

    private void blocks() {
        int[] lengths = {8, 9, 15, 16, 17, 31, 32, 33, 207, 208};
        WirelessCell cell = Cells.keyed(1);
        for (int i = 0; i < lengths.length; i++) {
            int said = lengths[i] - 8;
            Cells.say(cell, 1, 0, said);
            cell.go(40);
            byte[] want = Reference.sealedFrame(Reference.header(8, 65, 0, 1, 0, 16 * (4 + i)), 1 + i, Cells.tk(1),
                    Others.said(said));
            edges.due("a part of " + lengths[i] + " bytes", Cells.frame(cell, 1), want);
        }
        Others others = Others.atAp(4);
        others.seal(69, 0, 0, new byte[0]);
        others.seal(69, 1, 0, Others.said(0));
        others.seal(65, 2, 0, new byte[0]);
        edges.due("parts of no bytes", others.cell.node(0, 8), 1);
        edges.due("none is dropped", others.cell.node(0, 10), 0);
    }

    private void sentAgainIsNotSealed() {
        Others others = Others.atAp(4);
        byte[] header = Reference.header(8, 65, 0, 1, 0, 16 * 700);
        byte[] sealed = Reference.sealedFrame(header, 1, Cells.tk(1), Others.said(5));
        others.put(Others.altered(sealed, 1, 8));
        edges.due("8 is set by somebody else", others.cell.node(0, 8), 1);
        others.cell.go(6);
        header[1] |= 4;
        byte[] more = Reference.sealedFrame(header, 2, Cells.tk(1), Others.said(5));
        others.put(Others.altered(more, 1, 4));
        edges.due("4 is not there any more", others.cell.node(0, 8), 1);
        edges.due("so it is dropped", others.cell.node(0, 10), 1);
    }

    private void sequenceIsNotSealed() {
        int[][] masks = {{22, 16}, {22, 128}, {23, 1}, {23, 128}};
        Others others = Others.atAp(4);
        for (int i = 0; i < masks.length; i++) {
            byte[] sealed = Reference.sealedFrame(Reference.header(8, 65, 0, 1, 0, 0), 1 + i, Cells.tk(1),
                    Others.said(5));
            others.put(Others.altered(sealed, masks[i][0], masks[i][1]));
            edges.due("another sequence number", others.cell.node(0, 8), 1 + i);
            others.cell.go(6);
        }
        for (int bit = 1; bit < 16; bit *= 2) {
            byte[] part = Reference.sealedFrame(Reference.header(8, 69, 0, 1, 0, 0), 100 + bit, Cells.tk(1),
                    Others.said(5));
            others.put(Others.altered(part, 22, bit));
            others.cell.go(6);
        }
        edges.due("another part number is dropped", others.cell.node(0, 10), 4);
        byte[] zero = Reference.sealedFrame(Reference.header(8, 65, 0, 1, 0, 1), 200, Cells.tk(1), Others.said(5));
        others.put(Others.altered(zero, 22, 1));
        edges.due("part 1 as part 0 is dropped", others.cell.node(0, 10), 5);
        edges.due("and not DELIVERED", others.cell.node(0, 8), 4);
    }

    // ---- III

    private void secretBytes() {
        for (int i = -1; i < 32; i++) {
            WirelessCell cell = new WirelessCell();
            long[] other = new long[4];
            if (i >= 0) {
                other[i / 8] = 1L << (8 * (i % 8));
            }
            cell.secret(8, other[0], other[1], other[2], other[3]);
            cell.join(8);
            cell.go(200);
            edges.due("one of them differs, " + i, cell.node(8, 1), i < 0 ? 4 : 3);
        }
        WirelessCell two = new WirelessCell();
        two.secret(1, 1, 1, 1, 1);
        two.known(1, 1, 1, 1, 1);
        two.secret(8, 8, 8, 8, 8);
        two.known(8, 8, 8, 8, 8);
        two.join(1);
        two.go(200);
        two.join(8);
        two.go(200);
        edges.due("one for each station", two.node(0, 0), 2);
    }

    private void nonceBytes() {
        WirelessCell zero = new WirelessCell();
        zero.join(1);
        zero.go(200);
        edges.due("all 0 at first", Cells.key(zero, 1, 0),
                Reference.tk(Reference.ptk(new byte[32], 1, new byte[32], new byte[32])));
        WirelessCell cell = new WirelessCell();
        cell.nonce(0, 0x8001020304050607L, Long.MIN_VALUE, Long.MAX_VALUE, -2);
        cell.join(1);
        cell.go(45);
        byte[] nonce = Reference.longs(0x8001020304050607L, Long.MIN_VALUE, Long.MAX_VALUE, -2);
        edges.due("the highest byte first", cell.air(0, 10 + 33), 128);
        edges.due("in HAND 1", Arrays.copyOfRange(Cells.frame(cell, 0), 33, 65), nonce);
    }

    private void ptkBytes() {
        WirelessCell cell = Cells.keyed(1);
        byte[] ptk = Cells.ptk(1);
        edges.due("its last 16 bytes, of counts 1 and 2", Cells.key(cell, 1, 0), Arrays.copyOfRange(ptk, 32, 48));
        byte[] hand4 = Cells.frame(cell, 1);
        edges.due("its first 16 bytes, of count 0", Arrays.copyOfRange(hand4, 33, 49),
                Arrays.copyOf(Reference.hmac(Arrays.copyOf(ptk, 16), Reference.bytes(4)), 16));
    }

    private void noncesNotBySize() {
        for (int i = 0; i < 2; i++) {
            WirelessCell cell = new WirelessCell();
            cell.nonce(0, i, 5, 5, 5);
            cell.nonce(1, 1 - i, 5, 5, 5);
            cell.join(1);
            cell.go(200);
            byte[] tk = Reference.tk(Reference.ptk(new byte[32], 1, Reference.longs(i, 5, 5, 5),
                    Reference.longs(1 - i, 5, 5, 5)));
            edges.due("the AP's is the " + (i == 0 ? "lower" : "higher") + " one", Cells.key(cell, 1, 0), tk);
            edges.due("at the AP, too", Cells.key(cell, 1, 1), tk);
        }
    }

    private void micBytes() {
        for (int i = 0; i < 16; i++) {
            Others others = Others.atAp(3);
            byte[] hand = Others.rightHand(2);
            hand[41 + i] ^= (byte) (i % 2 == 0 ? 1 : 128);
            others.put(others.frame(Others.DATA, 1, 0, 1, hand));
            edges.due("byte " + i + " is wrong", others.cell.node(0, 2), 0);
        }
        Others others = Others.atAp(3);
        others.put(others.frame(Others.DATA, 1, 0, 1, Others.rightHand(2)));
        edges.due("all are right", others.cell.node(0, 2), 1);
    }
}
