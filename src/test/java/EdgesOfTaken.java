import java.util.Arrays;

/** 'Terms' V: what is TAKEN, what is dropped, and what is DELIVERED. */
final class EdgesOfTaken {
    private final Edges edges;

    EdgesOfTaken(Edges edges) {
        this.edges = edges;
    }

    void all() {
        edges.sentence("V", "TAKEN is a CLEAN FRAME (VI)", this::cleanOnes);
        edges.sentence("V", "whose FCS is right", this::rightFcs);
        edges.sentence("V", "14 of an ACK", this::bytesOfAck);
        edges.sentence("V", "else 28 .. 300", this::bytesOfOthers);
        edges.sentence("V", "FC just as told", this::firstBytes);
        edges.sentence("V", "an ACK's second byte 0", this::secondByteOfAck);
        edges.sentence("V", "of others but DATA 0 or 8", this::secondBytes);
        edges.sentence("V", "A1 the node's ADDRESS.", this::takenByOne);
        edges.sentence("V", "If it is no ACK, an ACK for its A2 is due.", this::ackForAnyone);
        edges.sentence("V", "If its A2 is a node's ADDRESS, it is dropped then", this::againFromNoNode);
        edges.sentence("V", "if it was sent again and its SC is that of the latest one from that A2", this::sentAgain);
        edges.sentence("V", "that was not dropped so.", this::latestNotDropped);
        edges.sentence("V", "dropped, if it has not 16 bytes behind SC, FCS aside", this::shortSeals);
        edges.sentence("V", "the third is not 0, the fourth not 32", this::sealMarks);
        edges.sentence("V", "PN is not above the one taken last", this::numbersTaken);
        edges.sentence("V", "or the MIC is wrong", this::wrongMics);
        edges.sentence("V", "else that PN is taken.", this::takenAllTheSame);
        edges.sentence("V", "Part 0 begins a MESSAGE", this::partZero);
        edges.sentence("V", "part n goes on with one, if it is the next part of the same sequence number",
                this::nextPart);
        edges.sentence("V", "else that MESSAGE is dropped, and this part.", this::otherPart);
        edges.sentence("V", "One with no 4 makes it whole", this::whole);
        edges.sentence("V", "if it has 8 .. 208 bytes", this::bytesOfWhole);
        edges.sentence("V", "and begins 170, 170, 3, 0, 0, 0, 8, 0", this::beginning);
        edges.sentence("V", "at a station it is DELIVERED from the node with ADDRESS A3", this::atStation);
        edges.sentence("V", "for the AP's ADDRESS as A3 it is DELIVERED from A2's", this::forTheAp);
        edges.sentence("V", "for another station's that is keyed it is QUEUED for that one (A3 is who said it)",
                this::forAnother);
        edges.sentence("V", "else nothing (also if A3 is no node's ADDRESS;", this::forNobody);
        edges.sentence("V", "of a MESSAGE A3 is that of its last part)", this::lastPartTells);
        edges.sentence("V", "A MESSAGE that grows beyond 208 bytes is dropped.", this::growsBeyond);
    }

    // ---- TAKEN

    private void cleanOnes() {
        for (int slot = -1; slot <= 4; slot++) {
            Others others = new Others(new WirelessCell());
            others.cell.go(10);
            others.cell.noise(10 + Math.max(0, slot), 10 + Math.max(0, slot));
            others.cell.go(slot < 0 ? 1 : 0);
            others.put(others.frame(Others.AUTH, 0, 0, 1, Others.AUTH_1));
            boolean spoils = slot >= 0 && slot <= 3;
            edges.due("NOISE in its slot " + slot, others.stateAtAp(), spoils ? 1 : 2);
            others.cell.go(2);
            edges.due("an ACK", others.cell.count(1), spoils ? 1 : 2);
        }
    }

    private void rightFcs() {
        Others others = new Others(new WirelessCell());
        byte[] right = others.frame(Others.AUTH, 0, 0, 1, Others.AUTH_1);
        for (int at = 0; at < 4; at++) {
            for (int mask = 1; mask <= 128; mask *= 128) {
                byte[] wrong = right.clone();
                wrong[right.length - 4 + at] ^= (byte) mask;
                edges.due("byte " + at + " of it by " + mask, others.acks(wrong), 0);
            }
        }
        byte[] body = right.clone();
        body[29] ^= 1;
        edges.due("another BODY", others.acks(body), 0);
        edges.due("the AP has done nothing", others.stateAtAp(), 1);
        edges.due("all is right", others.acks(right), 1);
        edges.due("the AP has done something", others.stateAtAp(), 2);
    }

    /** Whether station 1, whose AUTH nobody heard, takes these bytes as its ACK. */
    private static int isAck(byte[] frame) {
        WirelessCell cell = new WirelessCell();
        cell.noise(0, 0);
        cell.join(1);
        Cells.load(cell, frame);
        cell.put(8 - Others.slots(frame.length));
        cell.go(8);
        return 1 - cell.node(1, 2);
    }

    private void bytesOfAck() {
        byte[] header = Reference.join(Reference.bytes(212, 0, 0, 0), Reference.address(1));
        edges.due("14", isAck(Reference.withFcs(header)), 1);
        edges.due("15", isAck(Reference.withFcs(Reference.join(header, new byte[1]))), 0);
        edges.due("28", isAck(Reference.withFcs(Reference.join(header, new byte[14]))), 0);
        edges.due("13", isAck(ackOfThirteen()), 0);
        edges.due("10", isAck(header), 0);
    }

    /** A FRAME of 13 bytes whose FCS begins with the last byte of station 1's ADDRESS, so that A1 seems right. */
    private static byte[] ackOfThirteen() {
        for (int i = 0; i < 65536; i++) {
            byte[] frame = Reference.withFcs(Reference.bytes(212, 0, i >> 8, i, 2, 0, 0, 0, 0));
            if (frame[9] == 1) {
                return frame;
            }
        }
        return new byte[13];
    }

    private void bytesOfOthers() {
        int[] kinds = {176, 0, 16, 192, 8};
        int[] lengths = {14, 27, 28, 29, 299, 300};
        for (int kind : kinds) {
            for (int bytes : lengths) {
                Others others = new Others(new WirelessCell());
                byte[] header = Reference.header(kind, 0, 3, 0, 0, 16);
                byte[] frame = Reference.withFcs(Arrays.copyOf(header, bytes - 4));
                edges.due(bytes + " bytes of FC " + kind, others.acks(frame), bytes >= 28 ? 1 : 0);
            }
        }
    }

    private void firstBytes() {
        for (int first = 0; first < 256; first++) {
            Others others = new Others(new WirelessCell());
            boolean told = first == 176 || first == 0 || first == 16 || first == 192 || first == 8;
            edges.due("first byte " + first, others.acks(others.frame(first, 0, 8, 0, new byte[0])), told ? 1 : 0);
        }
        for (int second = 0; second < 256; second++) {
            Others others = new Others(new WirelessCell());
            boolean told = (second & ~(1 | 2 | 4 | 8 | 64)) == 0;
            edges.due("DATA, second byte " + second, others.acks(others.frame(8, second, 8, 0, new byte[0])),
                    told ? 1 : 0);
        }
    }

    private void secondByteOfAck() {
        for (int second = 0; second < 256; second++) {
            byte[] frame = Reference.join(Reference.bytes(212, second, 0, 0), Reference.address(1));
            edges.due("second byte " + second, isAck(Reference.withFcs(frame)), second == 0 ? 1 : 0);
        }
    }

    private void secondBytes() {
        int[] kinds = {176, 0, 16, 192};
        for (int kind : kinds) {
            for (int second = 0; second < 256; second++) {
                Others others = new Others(new WirelessCell());
                edges.due("FC " + kind + ", " + second, others.acks(others.frame(kind, second, 8, 0, new byte[0])),
                        second == 0 || second == 8 ? 1 : 0);
            }
        }
    }

    private void takenByOne() {
        for (int k = 0; k <= 8; k++) {
            Others others = new Others(new WirelessCell());
            edges.due("an ACK", others.acks(others.frame(Others.END, 8, k, 1, Others.ENDS)), 1);
            edges.due("of node " + k, others.cell.air(0, 1), k);
            edges.due("and of no other", others.cell.count(1), 2);
            edges.due("to nobody", others.acks(others.frame(Others.END, 0, 9, 1, Others.ENDS)), 0);
        }
    }

    private void ackForAnyone() {
        Others others = new Others(new WirelessCell());
        int[] speakers = {0, 1, 3, 8, 9, 255};
        for (int k : speakers) {
            edges.due("A2 of " + k, others.acks(others.frame(Others.END, 0, 3, k, Others.ENDS)), 1);
            edges.due("the ACK", Cells.frame(others.cell, 0), Others.ack(k));
        }
        byte[] foreign = Others.altered(others.frame(Others.END, 0, 3, 1, Others.ENDS), 10, 255);
        edges.due("A2 of somebody else", others.acks(foreign), 1);
        edges.due("the first byte of its A1", others.cell.air(0, 14), 253);
        edges.due("an ACK has none", others.acks(Others.ack(3)), 0);
        byte[] again = others.frame(Others.END, 8, 3, 0, Others.ENDS);
        others.acks(again);
        edges.due("one that is dropped as sent again has one", others.acks(again), 1);
        edges.due("it was dropped", others.cell.node(3, 9), 1);
    }

    // ---- dropped as sent again

    private void againFromNoNode() {
        Others others = new Others(new WirelessCell());
        int[] none = {9, 255};
        for (int k : none) {
            byte[] again = others.frame(Others.END, 8, 3, k, Others.ENDS);
            others.acks(again);
            others.acks(again);
            edges.due("A2 of " + k, others.cell.node(3, 9), 0);
        }
        int[] nodes = {0, 1, 3, 8};
        for (int i = 0; i < nodes.length; i++) {
            byte[] again = others.frame(Others.END, 8, 3, nodes[i], Others.ENDS);
            others.acks(again);
            edges.due("A2 of node " + nodes[i] + ", once", others.cell.node(3, 9), i);
            others.acks(again);
            edges.due("A2 of node " + nodes[i] + ", twice", others.cell.node(3, 9), i + 1);
        }
    }

    private static byte[] end(int flags, int to, int from, int sc) {
        return Reference.withFcs(Reference.join(Reference.header(192, flags, to, from, 0, sc), Others.ENDS));
    }

    private void sentAgain() {
        Others others = new Others(new WirelessCell());
        others.acks(end(8, 1, 0, 0));
        edges.due("there is no latest one, SC 0", others.cell.node(1, 9), 0);
        others.acks(end(0, 1, 0, 0));
        edges.due("the same SC, not sent again", others.cell.node(1, 9), 0);
        others.acks(end(8, 1, 0, 0));
        edges.due("the same SC, sent again", others.cell.node(1, 9), 1);
        int[] numbers = {1, 15, 16, 255, 256, 32768, 65535};
        for (int sc : numbers) {
            others.acks(end(8, 1, 0, sc));
            edges.due("another SC, " + sc, others.cell.node(1, 9), 1);
        }
        others.acks(end(8, 1, 0, 65535));
        edges.due("that SC, sent again", others.cell.node(1, 9), 2);
        others.acks(end(8, 2, 0, 65535));
        edges.due("at another node", others.cell.node(2, 9), 0);
        others.acks(end(0, 1, 2, 7));
        others.acks(end(8, 1, 0, 65535));
        edges.due("another A2 has come between", others.cell.node(1, 9), 3);
        others.acks(end(8, 1, 3, 65535));
        edges.due("from another A2", others.cell.node(1, 9), 3);
    }

    private void latestNotDropped() {
        Others others = new Others(new WirelessCell());
        others.acks(end(0, 1, 0, 32));
        others.acks(end(8, 1, 0, 32));
        others.acks(end(8, 1, 0, 32));
        edges.due("dropped ones leave the latest as it is", others.cell.node(1, 9), 2);
        others.acks(end(8, 1, 0, 48));
        edges.due("one that was not dropped is the latest", others.cell.node(1, 9), 2);
        others.acks(end(8, 1, 0, 32));
        edges.due("so the one ahead is not", others.cell.node(1, 9), 2);
        others.acks(Others.altered(end(0, 1, 0, 64), 24, 255));
        others.acks(end(8, 1, 0, 64));
        edges.due("one that does nothing is the latest, too", others.cell.node(1, 9), 3);
        Others sealed = Others.atAp(4);
        byte[] seal = Reference.sealedFrame(Reference.header(8, 73, 0, 1, 0, 16 * 9), 0, Cells.tk(1), Others.said(1));
        sealed.acks(seal);
        sealed.acks(seal);
        edges.due("one whose seal is dropped is the latest, too", sealed.cell.node(0, 9), 1);
        edges.due("its seal was dropped once", sealed.cell.node(0, 10), 1);
    }

    // ---- seals

    private void shortSeals() {
        Others others = Others.atAp(4);
        int[] lengths = {0, 1, 15};
        for (int i = 0; i < lengths.length; i++) {
            byte[] body = Arrays.copyOf(Reference.bytes(9, 0, 0, 32), lengths[i]);
            others.acks(others.frame(Others.DATA, 65, 0, 1, body));
            edges.due(lengths[i] + " bytes", others.cell.node(0, 10), 1 + i);
        }
        others.seal(69, 0, 0, new byte[0]);
        edges.due("16 bytes, a part of none", others.cell.node(0, 10), 3);
        others.seal(65, 1, 0, Others.said(1));
        edges.due("they were taken", others.cell.node(0, 8), 1);
        others.seal(65, 0, 0, Others.said(248));
        edges.due("272 bytes, whose MESSAGE is too long", others.cell.node(0, 10), 4);
    }

    private void sealMarks() {
        Others others = Others.atAp(4);
        int dropped = 0;
        for (int at = 26; at <= 27; at++) {
            for (int mask = 1; mask < 256; mask *= 2) {
                byte[] right = Reference.sealedFrame(Reference.header(8, 65, 0, 1, 0, 16 * 9), 5, Cells.tk(1),
                        Others.said(1));
                others.put(Others.altered(right, at, mask));
                dropped++;
                edges.due("byte " + (at - 23) + " by " + mask, others.cell.node(0, 10), dropped);
                others.cell.go(6);
            }
        }
        others.sealBy(65, 0, 0, 5, Others.said(1));
        edges.due("0 and 32", others.cell.node(0, 8), 1);
    }

    private void numbersTaken() {
        Others others = Others.atAp(4);
        others.sealBy(65, 0, 0, 0, Others.said(1));
        edges.due("0 at first", others.cell.node(0, 10), 1);
        long[] numbers = {1, 2, 255, 256, 65536, 1L << 32, (1L << 47) - 1, 1L << 47, (1L << 48) - 1};
        int dropped = 1;
        for (int i = 0; i < numbers.length; i++) {
            others.sealBy(65, 0, 0, numbers[i], Others.said(1));
            edges.due("above, " + numbers[i], others.cell.node(0, 8), 1 + i);
            others.sealBy(65, 0, 0, numbers[i], Others.said(1));
            others.sealBy(65, 0, 0, numbers[i] - 1, Others.said(1));
            dropped += 2;
            edges.due("the same, and below", others.cell.node(0, 10), dropped);
            edges.due("are not DELIVERED", others.cell.node(0, 8), 1 + i);
        }
    }

    private void wrongMics() {
        Others others = Others.atAp(4);
        byte[] right = Reference.sealedFrame(Reference.header(8, 65, 0, 1, 0, 16 * 9), 5, Cells.tk(1), Others.said(1));
        for (int i = 0; i < 17; i++) {
            others.put(Others.altered(right, 32 + i, i % 2 == 0 ? 1 : 128));
            edges.due("byte " + i + " of the part and its MIC", others.cell.node(0, 10), 1 + i);
            others.cell.go(6);
        }
        byte[] otherKey = Reference.sealedFrame(Reference.header(8, 65, 0, 1, 0, 16 * 9), 5, Cells.tk(2),
                Others.said(1));
        others.put(otherKey);
        edges.due("by another key", others.cell.node(0, 10), 18);
        others.cell.go(6);
        others.put(right);
        edges.due("the MIC is right", others.cell.node(0, 8), 1);
        others.cell.go(6);
        others.sealBy(69, 0, 0, 6, Others.said(1));
        byte[] second = Reference.sealedFrame(Reference.header(8, 65, 0, 1, 0, 1 + 16 * 1000), 7, Cells.tk(1),
                Cells.said(1));
        others.put(Others.altered(second, 32, 1));
        edges.due("a second part's MIC is wrong", others.cell.node(0, 10), 19);
        others.cell.go(6);
        others.put(second);
        edges.due("the MESSAGE begun was not dropped with it", others.cell.node(0, 8), 2);
    }

    private void takenAllTheSame() {
        Others others = Others.atAp(4);
        others.sealBy(65, 3, 0, 50, Cells.said(1));
        edges.due("a part of no MESSAGE", others.cell.node(0, 10), 1);
        others.sealBy(65, 0, 0, 50, Others.said(1));
        edges.due("its PN is taken", others.cell.node(0, 10), 2);
        others.sealBy(65, 0, 0, 60, Others.said(201));
        others.sealBy(65, 0, 0, 60, Others.said(1));
        edges.due("also that of a MESSAGE that is too long", others.cell.node(0, 10), 4);
        others.sealBy(65, 0, 9, 70, Others.said(1));
        others.sealBy(65, 0, 0, 70, Others.said(1));
        edges.due("also that of one for nobody", others.cell.node(0, 10), 5);
        byte[] wrong = Reference.sealedFrame(Reference.header(8, 65, 0, 1, 0, 16 * 9), 1000, Cells.tk(1),
                Others.said(1));
        others.put(Others.altered(wrong, 32, 1));
        others.cell.go(6);
        edges.due("a wrong MIC", others.cell.node(0, 10), 6);
        others.sealBy(65, 0, 0, 71, Others.said(1));
        edges.due("its PN is not taken", others.cell.node(0, 8), 1);
        others.sealBy(65, 0, 0, 80, Others.said(248));
        others.sealBy(65, 0, 0, 80, Others.said(1));
        edges.due("that of the longest part, of 256 bytes, is", others.cell.node(0, 8), 1);
    }

    // ---- parts

    private void partZero() {
        Others others = Others.atAp(4);
        others.seal(69, 0, 0, Others.said(50));
        others.seal(69, 1, 0, Cells.said(50));
        others.seal(69, 0, 0, Others.said(2));
        edges.due("anew: nothing is dropped", others.cell.node(0, 10), 0);
        others.seal(65, 1, 0, Cells.said(3));
        edges.due("bytes of the second one alone", others.cell.delivered(0, 0, 1), 5);
        others.seal(69, 0, 0, Others.said(50));
        others.sealedSequence++;
        others.seal(65, 0, 0, Others.said(1));
        edges.due("of another sequence number", others.cell.delivered(0, 1, 1), 1);
        others.sealedSequence--;
        others.seal(65, 1, 0, Cells.said(3));
        edges.due("so the one ahead is gone", others.cell.node(0, 10), 1);
    }

    private void nextPart() {
        Others others = Others.atAp(4);
        others.seal(69, 0, 0, Others.said(1));
        others.seal(69, 1, 0, Cells.said(1));
        others.seal(65, 2, 0, Cells.said(1));
        edges.due("0, 1, 2", others.cell.node(0, 8), 1);
        int[][] wrong = {{1}, {15}, {0, 2}, {0, 15}, {0, 1, 1}, {0, 1, 3}};
        for (int i = 0; i < wrong.length; i++) {
            for (int j = 0; j < wrong[i].length; j++) {
                others.seal(j + 1 < wrong[i].length ? 69 : 65, wrong[i][j], 0, j == 0 ? Others.said(1) : Cells.said(1));
            }
            edges.due("parts " + Arrays.toString(wrong[i]), others.cell.node(0, 10), 1 + i);
        }
        int[] changes = {1, 16, 256, 2048};
        for (int change : changes) {
            others.seal(69, 0, 0, Others.said(1));
            others.sealedSequence ^= change;
            others.seal(65, 1, 0, Cells.said(1));
        }
        edges.due("other sequence numbers", others.cell.node(0, 10), wrong.length + changes.length);
        edges.due("none of them is whole", others.cell.node(0, 8), 1);
    }

    private void otherPart() {
        Others others = Others.atAp(4);
        others.seal(69, 0, 0, Others.said(1));
        others.seal(69, 2, 0, Cells.said(1));
        edges.due("this part", others.cell.node(0, 10), 1);
        others.seal(65, 1, 0, Cells.said(1));
        edges.due("that MESSAGE: its next part is dropped", others.cell.node(0, 10), 2);
        edges.due("and nothing is whole", others.cell.node(0, 8), 0);
        others.seal(65, 0, 0, Others.said(1));
        edges.due("another one begins", others.cell.node(0, 8), 1);
    }

    private void whole() {
        Others others = Others.atAp(4);
        others.seal(69, 0, 0, Others.said(9));
        edges.due("with 4", others.cell.node(0, 8), 0);
        others.seal(69, 1, 0, Cells.said(9));
        edges.due("with 4", others.cell.node(0, 8), 0);
        others.seal(65, 2, 0, new byte[0]);
        edges.due("with no 4, and no bytes", others.cell.node(0, 8), 1);
        edges.due("bytes", others.cell.delivered(0, 0, 1), 18);
        others.seal(65, 3, 0, Cells.said(1));
        edges.due("behind it, no MESSAGE is begun", others.cell.node(0, 10), 1);
        others.seal(65, 0, 0, Others.said(2));
        edges.due("part 0 with no 4", others.cell.delivered(0, 1, 1), 2);
    }

    private void bytesOfWhole() {
        Others others = Others.atAp(4);
        others.seal(65, 0, 0, Arrays.copyOf(Others.HEAD_OF_SAID, 7));
        edges.due("7", others.cell.node(0, 8), 0);
        edges.due("7 are not dropped", others.cell.node(0, 10), 0);
        others.seal(65, 0, 0, Others.said(0));
        edges.due("8", others.cell.delivered(0, 0, 1), 0);
        others.seal(65, 0, 0, Others.said(1));
        edges.due("9", others.cell.delivered(0, 1, 1), 1);
        others.seal(65, 0, 0, Others.said(199));
        edges.due("207", others.cell.delivered(0, 2, 1), 199);
        others.seal(65, 0, 0, Others.said(200));
        edges.due("208", others.cell.delivered(0, 3, 1), 200);
        edges.due("the last of 208", others.cell.delivered(0, 3, 10 + 199), Cells.said(200)[199] & 255);
        others.seal(65, 0, 0, Others.said(201));
        edges.due("209", others.cell.node(0, 8), 4);
        others.seal(69, 0, 0, Arrays.copyOf(Others.HEAD_OF_SAID, 4));
        others.seal(65, 1, 0, Arrays.copyOfRange(Others.HEAD_OF_SAID, 4, 7));
        edges.due("7 in two parts", others.cell.node(0, 8), 4);
        others.seal(69, 0, 0, Arrays.copyOf(Others.HEAD_OF_SAID, 4));
        others.seal(65, 1, 0, Arrays.copyOfRange(Others.HEAD_OF_SAID, 4, 8));
        edges.due("8 in two parts", others.cell.node(0, 8), 5);
    }

    private void beginning() {
        Others others = Others.atAp(4);
        for (int i = 0; i < 8; i++) {
            byte[] message = Others.said(5);
            message[i] ^= 1;
            others.seal(65, 0, 0, message);
            edges.due("another byte " + i, others.cell.node(0, 8), 0);
        }
        others.seal(65, 0, 0, Others.rightHand(4));
        edges.due("136, 142", others.cell.node(0, 8), 0);
        edges.due("none is dropped", others.cell.node(0, 10), 0);
        others.seal(65, 0, 0, Others.said(5));
        edges.due("just so", others.cell.node(0, 8), 1);
    }

    // ---- DELIVERED

    private void atStation() {
        Others others = Others.atStation(4);
        int[] speakers = {0, 1, 2, 8};
        for (int i = 0; i < speakers.length; i++) {
            others.seal(66, 0, speakers[i], Others.said(1));
            edges.due("from " + speakers[i], others.cell.delivered(1, i, 0), speakers[i]);
        }
        int[] none = {9, 10, 255};
        for (int speaker : none) {
            others.seal(66, 0, speaker, Others.said(1));
            edges.due("from " + speaker, others.cell.node(1, 8), speakers.length);
        }
        edges.due("nothing is QUEUED", others.cell.node(1, 2), 0);
    }

    private void forTheAp() {
        Others others = Others.atAp(4);
        others.seal(65, 0, 0, Others.said(1));
        edges.due("DELIVERED", others.cell.node(0, 8), 1);
        edges.due("from A2's", others.cell.delivered(0, 0, 0), 1);
        edges.due("nothing is QUEUED", others.cell.node(0, 2), 0);
        WirelessCell cell = Cells.keyed(8);
        Cells.say(cell, 8, 0, 1);
        cell.go(40);
        edges.due("from 8", cell.delivered(0, 0, 0), 8);
    }

    private void forAnother() {
        WirelessCell cell = Cells.keyed(8);
        Cells.say(cell, 1, 8, 0);
        Cells.say(cell, 8, 1, 200);
        cell.go(200);
        edges.due("at 8", cell.delivered(8, 0, 0), 1);
        edges.due("no bytes", cell.delivered(8, 0, 1), 0);
        edges.due("at 1", cell.delivered(1, 0, 0), 8);
        edges.due("200 bytes", Cells.delivered(cell, 1, 0), Cells.said(200));
        edges.due("none at the AP", cell.node(0, 8), 0);
        WirelessCell full = Cells.keyed(2);
        full.draw(7);
        for (int i = 0; i < 12; i++) {
            full.submit(0, 1);
        }
        int next = full.node(0, 7);
        new Others(full).put(Reference.sealedFrame(Reference.header(8, 65, 0, 1, 2, 16 * 900), 100, Cells.tk(1),
                Others.said(1)));
        edges.due("it finds the QUEUE full", full.node(0, 2), 12);
        edges.due("and is lost", full.node(0, 7), next);
    }

    private void forNobody() {
        Others others = Others.atAp(4);
        int[] none = {1, 2, 8, 9, 10, 128, 255};
        for (int third : none) {
            others.seal(65, 0, third, Others.said(1));
            edges.due("for " + third + ": nothing is DELIVERED", others.cell.node(0, 8), 0);
            edges.due("for " + third + ": nothing is QUEUED", others.cell.node(0, 2), 0);
            edges.due("for " + third + ": nothing is dropped", others.cell.node(0, 10), 0);
        }
        for (int state = 1; state <= 3; state++) {
            Others pair = Others.atAp(4);
            if (state >= 2) {
                pair.putAndLose(pair.frame(Others.AUTH, 0, 0, 2, Others.AUTH_1));
            }
            if (state >= 3) {
                pair.putAndLose(pair.frame(Others.ASK, 0, 0, 2, Others.ASKS));
            }
            edges.due("the other one", pair.cell.node(2, 1), state);
            pair.seal(65, 0, 2, Others.said(1));
            edges.due("is not keyed", pair.cell.node(0, 2), 0);
        }
    }

    private void lastPartTells() {
        Others others = Others.atAp(4);
        others.seal(69, 0, 9, Others.said(1));
        others.seal(69, 1, 1, Cells.said(1));
        others.seal(65, 2, 0, Cells.said(1));
        edges.due("for the AP", others.cell.node(0, 8), 1);
        others.seal(69, 0, 0, Others.said(1));
        others.seal(65, 1, 9, Cells.said(1));
        edges.due("for nobody", others.cell.node(0, 8), 1);
    }

    private void growsBeyond() {
        Others others = Others.atAp(4);
        others.seal(69, 0, 0, Others.said(199));
        others.seal(69, 1, 0, Cells.said(1));
        edges.due("208 so far", others.cell.node(0, 10), 0);
        others.seal(69, 2, 0, new byte[0]);
        edges.due("and no more", others.cell.node(0, 10), 0);
        others.seal(65, 3, 0, new byte[0]);
        edges.due("208", others.cell.node(0, 8), 1);
        others.seal(69, 0, 0, Others.said(200));
        others.seal(69, 1, 0, Cells.said(1));
        edges.due("209 so far", others.cell.node(0, 10), 1);
        others.seal(65, 2, 0, new byte[0]);
        edges.due("nothing goes on with it", others.cell.node(0, 10), 2);
        others.seal(69, 0, 0, Others.said(200));
        others.seal(69, 1, 0, Cells.said(1));
        others.seal(65, 1, 0, new byte[0]);
        edges.due("not even a shorter part of the same number", others.cell.node(0, 10), 4);
        others.seal(69, 0, 0, Others.said(201));
        edges.due("209 at once", others.cell.node(0, 10), 5);
        others.seal(65, 1, 0, new byte[0]);
        edges.due("nothing goes on with it", others.cell.node(0, 10), 6);
        others.seal(65, 0, 0, Others.said(248));
        edges.due("256 at once", others.cell.node(0, 10), 7);
        edges.due("none of them is DELIVERED", others.cell.node(0, 8), 1);
    }
}
