/** Promises 19, 21, 24 and 25, go, node, air and count, and the SLOTS of section VI. */
public final class SlotsTest {
    private static final Checks CHECKS = new Checks();

    private SlotsTest() {
    }

    public static void main(String[] args) {
        go();
        goInSteps();
        node();
        airOfOne();
        airWrongly();
        count();
        slotsByBytes();
        waitsForAck();
        backoffCountsQuietSlots();
        threeQuietSlots();
        failed();
        contentionGrows();
        doneDrawsAnew();
        collision();
        putCollides();
        manyOnTheAir();
        forgedAck();
        ackNotWaitedFor();
        ackWhileSomethingIsQueued();
        partsAreDue();
        partFails();
        triesOfParts();
        sequenceNumbers();
        queueIsFull();
        CHECKS.finish();
    }

    private static void dueNode(WirelessCell cell, int node, String what, int... want) {
        for (int i = 0; i < want.length; i++) {
            CHECKS.due(what + ": node(" + node + ", " + (2 + i) + ")", cell.node(node, 2 + i), want[i]);
        }
    }

    private static byte[] ack(int to) {
        return Reference.withFcs(Reference.join(Reference.bytes(212, 0, 0, 0), Reference.address(to)));
    }

    private static void go() {
        WirelessCell cell = new WirelessCell();
        CHECKS.due("go(-1)", cell.go(-1), -1);
        CHECKS.due("go(3001)", cell.go(3001), -1);
        CHECKS.due("go(MIN)", cell.go(Integer.MIN_VALUE), -1);
        CHECKS.due("go(MAX)", cell.go(Integer.MAX_VALUE), -1);
        CHECKS.due("no slot went", cell.count(0), 0);
        CHECKS.due("go(0)", cell.go(0), 0);
        CHECKS.due("go(3000)", cell.go(3000), 0);
        CHECKS.due("slots", cell.count(0), 3000);
        cell.join(1);
        CHECKS.due("go(0)", cell.go(0), 0);
        CHECKS.due("go(1)", cell.go(1), 1);
        CHECKS.due("go(4)", cell.go(4), 0);
        CHECKS.due("the ACK", cell.go(1), 1);
    }

    /** However the slots are told, the same happens in them. */
    private static void goInSteps() {
        WirelessCell once = new WirelessCell();
        WirelessCell steps = new WirelessCell();
        WirelessCell[] both = {once, steps};
        for (WirelessCell cell : both) {
            cell.draw(3);
            cell.draw(2);
            cell.join(1);
            cell.join(2);
            cell.feed(1, 2, 3, 4, 5);
            cell.put(700);
        }
        int sum = 0;
        for (int i = 0; i < 1000; i++) {
            sum += steps.go(1);
        }
        CHECKS.due("FRAMES", once.go(1000), sum);
        for (int what = 0; what <= 8; what++) {
            CHECKS.due("count(" + what + ")", once.count(what), steps.count(what));
        }
        for (int i = 0; i < sum; i++) {
            CHECKS.due("slot of " + i, once.air(i, 0), steps.air(i, 0));
        }
    }

    private static void node() {
        WirelessCell cell = Cells.keyed(2);
        int[] wrong = {Integer.MIN_VALUE, -1, 9, Integer.MAX_VALUE};
        for (int k : wrong) {
            CHECKS.due("node(" + k + ", 0)", cell.node(k, 0), -1);
        }
        int[] others = {Integer.MIN_VALUE, -1, 11, Integer.MAX_VALUE};
        for (int what : others) {
            CHECKS.due("node(1, " + what + ")", cell.node(1, what), -1);
        }
        CHECKS.due("STATE of 1", cell.node(1, 0), 4);
        CHECKS.due("STATE of 3", cell.node(3, 0), 1);
        CHECKS.due("keyed at the AP", cell.node(0, 0), 2);
        CHECKS.due("of the AP 0", cell.node(0, 1), 0);
        CHECKS.due("next sequence number of 1", cell.node(1, 7), 4);
        CHECKS.due("next sequence number of the AP", cell.node(0, 7), 8);
        cell.draw(6);
        cell.submit(1, 0);
        cell.submit(1, 2);
        dueNode(cell, 1, "two are QUEUED", 2, 6, 7, 0, 0, 6);
    }

    private static void airOfOne() {
        WirelessCell cell = new WirelessCell();
        cell.go(7);
        cell.join(2);
        cell.go(1);
        int[] want = {7, 2, 34, 4, 2};
        for (int what = 0; what < want.length; what++) {
            CHECKS.due("air(0, " + what + ")", cell.air(0, what), want[what]);
        }
        cell.go(2);
        CHECKS.due("not over ahead of its last slot", cell.air(0, 4), 2);
        cell.go(1);
        CHECKS.due("over and CLEAN", cell.air(0, 4), 1);
        CHECKS.due("its first byte", cell.air(0, 10), 176);
        CHECKS.due("A2", cell.air(0, 10 + 15), 2);
        CHECKS.due("its last byte", cell.air(0, 10 + 33), Cells.frame(cell, 0)[33] & 255);
        CHECKS.due("none behind it", cell.air(0, 10 + 34), -1);
        cell.go(2);
        CHECKS.due("the ACK is the latest", cell.air(0, 2), 14);
        CHECKS.due("by the AP", cell.air(0, 1), 0);
        CHECKS.due("AUTH is ahead of it", cell.air(1, 2), 34);
    }

    private static void airWrongly() {
        WirelessCell cell = new WirelessCell();
        cell.join(1);
        cell.go(5);
        int[] whats = {Integer.MIN_VALUE, -1, 5, 6, 7, 8, 9, 44, Integer.MAX_VALUE};
        for (int what : whats) {
            CHECKS.due("air(0, " + what + ")", cell.air(0, what), -1);
        }
        CHECKS.due("air(1, 0)", cell.air(1, 0), -1);
        CHECKS.due("air(-1, 0)", cell.air(-1, 0), -1);
        CHECKS.due("air(MIN, 0)", cell.air(Integer.MIN_VALUE, 0), -1);
        CHECKS.due("air(MAX, 0)", cell.air(Integer.MAX_VALUE, 0), -1);
    }

    private static void count() {
        WirelessCell cell = new WirelessCell();
        cell.draw(0);
        cell.draw(1);
        cell.feed(1, 2, 3, 4, 5);
        cell.put(90);
        cell.feed(1, 2, 3, 4, 5);
        cell.noise(0, 3);
        cell.join(1);
        cell.go(8);
        cell.submit(1, 2);
        cell.end(0);
        cell.feed(1, 2, 3, 4, 5);
        cell.end(13);
        int[] want = {8, 1, 1, 0, 13, 1, 4, 1, 1};
        for (int what = 0; what < want.length; what++) {
            CHECKS.due("count(" + what + ")", cell.count(what), want[what]);
        }
        int[] others = {Integer.MIN_VALUE, -1, 9, Integer.MAX_VALUE};
        for (int what : others) {
            CHECKS.due("count(" + what + ")", cell.count(what), -1);
        }
    }

    private static void slotsByBytes() {
        int[][] cases = {{1, 3}, {31, 3}, {32, 3}, {33, 4}, {64, 4}, {65, 5}, {256, 10}, {257, 11}, {288, 11},
            {289, 12}, {300, 12}};
        for (int[] pair : cases) {
            WirelessCell cell = new WirelessCell();
            Cells.putNow(cell, new byte[pair[0]], pair[1] - 1);
            CHECKS.due("slots of " + pair[0], cell.air(0, 3), pair[1]);
            CHECKS.due("not over", cell.air(0, 4), 2);
            cell.go(1);
            CHECKS.due("over", cell.air(0, 4), 1);
            cell.go(5);
            CHECKS.due("QUIET behind it", cell.count(6), 5);
        }
    }

    private static void waitsForAck() {
        WirelessCell cell = new WirelessCell();
        cell.join(1);
        cell.go(3);
        CHECKS.due("sending", cell.node(1, 6), 0);
        cell.go(1);
        CHECKS.due("it waits from its last slot on", cell.node(1, 6), 1);
        cell.go(3);
        CHECKS.due("the ACK is on the air", cell.node(1, 6), 1);
        CHECKS.due("AUTH is in the QUEUE", cell.node(1, 2), 1);
        cell.go(1);
        CHECKS.due("it waits no more", cell.node(1, 6), 0);
        CHECKS.due("DONE", cell.node(1, 2), 0);
        CHECKS.due("the AP does not wait behind an ACK", cell.node(0, 6), 0);
        CHECKS.due("the ACK began in the slot after next", cell.air(0, 0), 5);
    }

    private static void backoffCountsQuietSlots() {
        WirelessCell cell = new WirelessCell();
        cell.draw(4);
        cell.join(1);
        for (int left = 4; left > 0; left--) {
            CHECKS.due("BACKOFF", cell.node(1, 3), left);
            CHECKS.due("nothing begins", cell.go(1), 0);
        }
        CHECKS.due("BACKOFF 0", cell.node(1, 3), 0);
        CHECKS.due("it begins", cell.go(1), 1);
        CHECKS.due("in slot 4", cell.air(0, 0), 4);
        WirelessCell busy = new WirelessCell();
        busy.draw(0);
        busy.draw(3);
        busy.join(1);
        busy.join(2);
        busy.go(11);
        CHECKS.due("no slot counts while others send and behind it", busy.node(2, 3), 3);
        busy.go(1);
        CHECKS.due("the AP begins in slot 11", busy.air(0, 0), 11);
        CHECKS.due("so it does not count either", busy.node(2, 3), 3);
    }

    private static void threeQuietSlots() {
        WirelessCell cell = new WirelessCell();
        cell.feed(1, 2, 3, 4, 5);
        cell.put(0);
        cell.go(1);
        cell.join(1);
        CHECKS.due("slots 1 .. 5", cell.go(5), 0);
        CHECKS.due("slot 6, three QUIET ones ahead", cell.go(1), 1);
        CHECKS.due("it began", cell.air(0, 0), 6);
    }

    private static void failed() {
        WirelessCell cell = new WirelessCell();
        cell.noise(3, 3);
        cell.join(1);
        cell.draw(127);
        cell.go(7);
        dueNode(cell, 1, "three slots waited", 1, 0, 7, 0, 1);
        CHECKS.due("FAILED", cell.count(7), 0);
        byte[] first = Cells.frame(cell, 0);
        cell.go(1);
        dueNode(cell, 1, "four slots waited, and this slot counts down", 1, 14, 15, 1, 0);
        CHECKS.due("FAILED", cell.count(7), 1);
        CHECKS.due("slots to go", cell.go(14), 0);
        CHECKS.due("again", cell.go(1), 1);
        first[1] |= 8;
        CHECKS.due("the same as sent again", Cells.frame(cell, 0),
                Reference.withFcs(java.util.Arrays.copyOf(first, 30)));
        CHECKS.due("began", cell.air(0, 0), 22);
        cell.go(8);
        dueNode(cell, 1, "DONE", 0, 0, 7, 0, 0);
    }

    private static void contentionGrows() {
        WirelessCell cell = new WirelessCell();
        cell.limit(15);
        cell.noise(0, 1999);
        cell.join(1);
        int[] want = {7, 15, 31, 63, 127, 127, 127};
        for (int i = 1; i < want.length; i++) {
            cell.go(8);
            CHECKS.due("CW behind try " + i, cell.node(1, 4), want[i]);
            CHECKS.due("tries", cell.node(1, 5), i);
            CHECKS.due("FRAMES", cell.count(1), i);
        }
        cell.draw(127);
        cell.go(8);
        CHECKS.due("BACKOFF of the whole DRAW, one less", cell.node(1, 3), 126);
    }

    private static void doneDrawsAnew() {
        WirelessCell cell = new WirelessCell();
        cell.join(1);
        cell.leave(1, 4);
        cell.draw(8 + 5);
        cell.draw(8 + 6);
        cell.go(4);
        CHECKS.due("the AP draws for AUTH 2", cell.node(0, 3), 5);
        cell.go(4);
        dueNode(cell, 1, "the next one draws", 1, 6, 7, 0, 0);
        WirelessCell given = new WirelessCell();
        given.limit(1);
        given.noise(0, 10);
        given.join(1);
        given.join(1);
        given.draw(127);
        given.go(8);
        dueNode(given, 1, "GIVEN UP, the next one draws by CW 7, and this slot counts down", 1, 6, 7, 0, 0);
    }

    private static void collision() {
        WirelessCell cell = new WirelessCell();
        cell.join(1);
        cell.join(2);
        cell.draw(1);
        cell.draw(6);
        CHECKS.due("both begin", cell.go(1), 2);
        CHECKS.due("nodes in order", cell.air(0, 1), 2);
        cell.go(3);
        CHECKS.due("not CLEAN", cell.air(0, 4), 0);
        CHECKS.due("not CLEAN", cell.air(1, 4), 0);
        CHECKS.due("both were over", cell.count(2), 2);
        CHECKS.due("both wait", cell.node(1, 6) + cell.node(2, 6), 2);
        cell.go(4);
        CHECKS.due("DRAWS in order: 1, which this slot counts down", cell.node(1, 3), 0);
        CHECKS.due("DRAWS in order: 6", cell.node(2, 3), 5);
        CHECKS.due("both FAILED", cell.count(7), 2);
        CHECKS.due("1 goes on", cell.go(1), 1);
        CHECKS.due("by itself", cell.air(0, 1), 1);
        cell.go(600);
        CHECKS.due("both are keyed at last", cell.node(0, 0), 2);
    }

    /** AUTH has slots 3 .. 6: a FRAME of others that begins in any of them spoils it. */
    private static void putCollides() {
        for (int slot = 3; slot <= 8; slot++) {
            WirelessCell cell = new WirelessCell();
            cell.feed(1, 2, 3, 4, 5);
            cell.put(slot);
            cell.draw(3);
            cell.join(1);
            cell.go(7);
            boolean touches = slot <= 6;
            CHECKS.due("AUTH, others begin in slot " + slot, cell.air(touches ? 1 : 0, 4), touches ? 0 : 1);
            CHECKS.due("the sender", cell.air(touches ? 1 : 0, 1), 1);
            cell.go(3);
            CHECKS.due("over and not CLEAN", cell.count(2), touches ? 2 : slot == 7 ? 1 : 0);
        }
        WirelessCell ahead = new WirelessCell();
        ahead.feed(1, 2, 3, 4, 5);
        ahead.put(1);
        ahead.draw(3);
        ahead.join(1);
        ahead.go(20);
        CHECKS.due("others ahead: no slot counts in 1 .. 6", ahead.air(1, 0), 4 + 3 + 2);
        CHECKS.due("all CLEAN", ahead.count(2), 0);
    }

    private static void manyOnTheAir() {
        WirelessCell cell = new WirelessCell();
        for (int round = 0; round < 10; round++) {
            for (int i = 0; i < 20; i++) {
                cell.end(0);
                if (cell.copy(0) != 300) {
                    Cells.load(cell, new byte[300]);
                }
                CHECKS.due("put", cell.put(cell.count(0)), i + 1);
            }
            CHECKS.due("all begin", cell.go(1), 20);
        }
        CHECKS.due("none is over", cell.count(2), 0);
        CHECKS.due("the 40th is on the air", cell.air(39, 4), 2);
        CHECKS.due("slot 10", cell.go(2), 0);
        CHECKS.due("twenty are over", cell.count(2), 20);
        cell.go(20);
        CHECKS.due("all are over", cell.count(2), 200);
        CHECKS.due("QUIET", cell.count(6), cell.count(0) - 21);
        CHECKS.due("the 40th was not CLEAN", cell.air(39, 4), 0);
        for (int i = 0; i < 40; i++) {
            cell.copy(0);
            cell.put(cell.count(0));
            cell.go(15);
            CHECKS.due("alone, it is CLEAN", cell.air(0, 4), 1);
        }
    }

    private static void forgedAck() {
        WirelessCell cell = new WirelessCell();
        cell.noise(0, 0);
        cell.join(1);
        Cells.load(cell, ack(1));
        cell.put(5);
        cell.go(8);
        CHECKS.due("an ACK of others is one", cell.node(1, 2), 0);
        CHECKS.due("nothing FAILED", cell.count(7), 0);
        WirelessCell late = new WirelessCell();
        late.noise(0, 0);
        late.join(1);
        Cells.load(late, ack(1));
        late.put(6);
        late.go(9);
        CHECKS.due("too late", late.count(7), 1);
        CHECKS.due("AUTH is in the QUEUE", late.node(1, 2), 1);
        byte[] wrong = Reference.withFcs(Reference.join(Reference.bytes(212, 8, 0, 0), Reference.address(1)));
        byte[] longer = Reference.withFcs(Reference.join(Reference.bytes(212, 0, 0, 0), Reference.address(1),
                Reference.bytes(0)));
        byte[][] others = {wrong, longer, ack(2)};
        for (byte[] frame : others) {
            WirelessCell other = new WirelessCell();
            other.noise(0, 0);
            other.join(1);
            Cells.load(other, frame);
            other.put(5);
            other.go(8);
            CHECKS.due("no ACK for it", other.count(7), 1);
        }
    }

    private static void ackNotWaitedFor() {
        WirelessCell cell = new WirelessCell();
        cell.draw(7);
        cell.join(1);
        CHECKS.due("an ACK for one that waits for none", Cells.putNow(cell, ack(1), 6), 1);
        dueNode(cell, 1, "nothing changes", 1, 7, 7, 0, 0);
    }

    private static void ackWhileSomethingIsQueued() {
        WirelessCell cell = new WirelessCell();
        cell.noise(0, 0);
        cell.join(1);
        cell.draw(2);
        byte[] end = Reference.withFcs(Reference.join(Reference.header(192, 0, 1, 0, 0, 0), Reference.bytes(1, 0)));
        Cells.load(cell, end);
        cell.put(5);
        cell.go(8);
        CHECKS.due("its own FAILED in slot 7", cell.count(7), 1);
        CHECKS.due("BACKOFF stays", cell.node(1, 3), 2);
        CHECKS.due("slot 8", cell.go(1), 0);
        CHECKS.due("its ACK in slot 9", cell.go(1), 1);
        CHECKS.due("an ACK", Cells.frame(cell, 0), ack(0));
        CHECKS.due("behind it, three QUIET slots and two to count", cell.go(7), 0);
        CHECKS.due("then it begins", cell.go(1), 1);
        CHECKS.due("AUTH again", cell.air(0, 10 + 1), 8);
        CHECKS.due("it began", cell.air(0, 0), 9 + 3 + 3 + 2);
    }

    private static void partsAreDue() {
        WirelessCell cell = Cells.keyed(1);
        cell.size(16);
        int from = cell.count(0);
        Cells.say(cell, 1, 0, 20);
        Cells.say(cell, 1, 0, 20);
        cell.go(60);
        int[] slots = {0, 5, 9, 14, 20, 25, 29, 34};
        for (int i = 0; i < slots.length; i++) {
            CHECKS.due("FRAME " + i, cell.air(slots.length - 1 - i, 0) - from, slots[i]);
        }
    }

    private static void partFails() {
        WirelessCell cell = Cells.keyed(1);
        cell.size(16);
        int from = cell.count(0);
        cell.noise(from + 9, from + 9);
        Cells.say(cell, 1, 0, 20);
        cell.draw(2);
        cell.go(17);
        dueNode(cell, 1, "the second part FAILED", 1, 1, 15, 1, 0);
        cell.go(20);
        CHECKS.due("DONE", cell.ended(0), 1);
        CHECKS.due("the second part again", cell.air(1, 10 + 1), 65 + 8);
        CHECKS.due("its PN is the same", cell.air(1, 10 + 24), 2);
        CHECKS.due("DELIVERED", Cells.delivered(cell, 0, 0), Cells.said(20));
    }

    private static void triesOfParts() {
        WirelessCell cell = Cells.keyed(1);
        cell.size(16);
        cell.limit(2);
        int from = cell.count(0);
        cell.noise(from, from);
        cell.noise(from + 17, from + 17);
        Cells.say(cell, 1, 0, 20);
        cell.go(16);
        dueNode(cell, 1, "the first part went well the second time", 1, 0, 15, 0, 0);
        cell.go(9);
        dueNode(cell, 1, "the second part FAILED once, CW as it was", 1, 0, 31, 1, 0);
        cell.go(20);
        CHECKS.due("DONE", cell.ended(0), 1);
    }

    private static void sequenceNumbers() {
        WirelessCell cell = new WirelessCell();
        cell.limit(1);
        for (int i = 0; i < 4096; i += 12) {
            for (int j = 0; j < 12; j++) {
                cell.leave(1, 0);
            }
            cell.go(200);
        }
        CHECKS.due("4104 numbers were given", cell.node(1, 7), 4104 - 4096);
        CHECKS.due("the latest has 7", cell.air(1, 10 + 22) + 256 * cell.air(1, 10 + 23), 7 * 16);
        CHECKS.due("4095", cell.air(1 + 2 * 8, 10 + 22) + 256 * cell.air(1 + 2 * 8, 10 + 23), 4095 * 16);
    }

    private static void queueIsFull() {
        WirelessCell cell = new WirelessCell();
        for (int i = 0; i < 13; i++) {
            cell.leave(1, i);
        }
        CHECKS.due("twelve", cell.node(1, 2), 12);
        CHECKS.due("numbers", cell.node(1, 7), 12);
        cell.go(12 * 20);
        CHECKS.due("all are sent", cell.node(1, 2), 0);
        CHECKS.due("the twelfth", cell.air(1, 10 + 24), 11);
        CHECKS.due("the first", cell.air(23, 10 + 24), 0);
    }
}
