/** Promises 21 to 25: what is asked. */
final class EdgesOfAsked {
    private static final int MIN = Integer.MIN_VALUE;
    private static final int MAX = Integer.MAX_VALUE;

    private final Edges edges;

    EdgesOfAsked(Edges edges) {
        this.edges = edges;
    }

    void all() {
        edges.sentence("Promise 21", "0 its STATE (of the AP: how many stations are keyed there), 1 as the AP has it (of "
                + "the AP 0)", this::states);
        edges.sentence("Promise 21", "2 MESSAGES in its QUEUE", this::messagesInQueue);
        edges.sentence("Promise 21", "3 BACKOFF, 4 CW, 5 tries", this::backoffAndTries);
        edges.sentence("Promise 21", "6 1 if it waits for an ACK, else 0", this::waits);
        edges.sentence("Promise 21", "7 its next sequence number", this::nextNumber);
        edges.sentence("Promise 21", "8 MESSAGES DELIVERED", this::messagesDelivered);
        edges.sentence("Promise 21", "9 FRAMES dropped there as sent again", this::droppedAgain);
        edges.sentence("Promise 21", "10 sealed FRAMES dropped there by V's second paragraph (each once;",
                this::droppedSealed);
        edges.sentence("Promise 21", "not a whole MESSAGE that begins otherwise or is for nobody)",
                this::wholeIsNotDropped);
        edges.sentence("Promise 21", "NONE for others.", this::nodeOfOthers);
        edges.sentence("Promise 22", "Byte i (0 .. 15) of the TK by which a station is keyed (side 0), or the AP for it "
                + "(1)", this::keyBytes);
        edges.sentence("Promise 22", "NONE without.", this::keyOfNone);
        edges.sentence("Promise 23", "(0 the first; 12 are kept)", this::twelveAreKept);
        edges.sentence("Promise 23", "0 from which node, 1 how many bytes were said, 10 + k byte k of these.",
                this::deliveredBytes);
        edges.sentence("Promise 23", "NONE without.", this::deliveredOfNone);
        edges.sentence("Promise 24", "0 its first slot, 1 who sends it (9: others), 2 its bytes, 3 its slots",
                this::airOfFrames);
        edges.sentence("Promise 24", "4 1 if it was CLEAN, 0 if not, 2 if it isn't over", this::airOver);
        edges.sentence("Promise 24", "10 + k byte k.", this::airBytes);
        edges.sentence("Promise 24", "NONE without.", this::airOfNone);
        edges.sentence("Promise 25", "0 the next slot, 1 FRAMES that began", this::countSlots);
        edges.sentence("Promise 25", "2 those that were over and not CLEAN", this::countNotClean);
        edges.sentence("Promise 25", "3 DRAWS left, 4 bytes of the TAPE, 5 SUBMISSIONS", this::countTold);
        edges.sentence("Promise 25", "6 QUIET slots, 7 FAILED ones", this::countQuietAndFailed);
        edges.sentence("Promise 25", "8 what others have put that hasn't begun.", this::countPut);
        edges.sentence("Promise 25", "NONE for others.", this::countOfOthers);
    }

    // ---- node

    private void states() {
        for (int state = 1; state <= 4; state++) {
            WirelessCell station = Others.atStation(state).cell;
            edges.due("STATE " + state, station.node(1, 0), state);
            edges.due("not as the AP has it", station.node(1, 1), 1);
            edges.due("so none is keyed there", station.node(0, 0), 0);
            WirelessCell ap = Others.atAp(state).cell;
            edges.due("STATE " + state + " as the AP has it", ap.node(1, 1), state);
            edges.due("not by itself", ap.node(1, 0), 1);
            edges.due("keyed there", ap.node(0, 0), state == 4 ? 1 : 0);
            edges.due("of the AP", ap.node(0, 1), 0);
        }
        edges.due("all are keyed", Cells.keyed(8).node(0, 0), 8);
    }

    private void messagesInQueue() {
        WirelessCell cell = new WirelessCell();
        edges.due("none", cell.node(8, 2), 0);
        for (int n = 1; n <= 14; n++) {
            cell.leave(8, 3);
            edges.due("of " + n, cell.node(8, 2), Math.min(n, 12));
        }
        cell.go(6);
        edges.due("the first one is there until its ACK was taken", cell.node(8, 2), 12);
        cell.go(1);
        edges.due("it is DONE", cell.node(8, 2), 11);
    }

    private void backoffAndTries() {
        WirelessCell cell = new WirelessCell();
        cell.limit(15);
        cell.noise(0, 1999);
        cell.draw(7);
        cell.join(1);
        edges.due("BACKOFF by CW 7", cell.node(1, 3), 7);
        edges.due("CW at first", cell.node(1, 4), 7);
        edges.due("tries at first", cell.node(1, 5), 0);
        cell.go(7);
        edges.due("BACKOFF counted down", cell.node(1, 3), 0);
        cell.go(8 * 3);
        edges.due("CW", cell.node(1, 4), 63);
        cell.draw(127);
        Cells.load(cell, Cells.said(1));
        cell.put(cell.count(0) + 7);
        cell.go(8);
        edges.due("BACKOFF by CW 127", cell.node(1, 3), 127);
        edges.due("the largest CW", cell.node(1, 4), 127);
        edges.due("tries", cell.node(1, 5), 4);
    }

    private void waits() {
        WirelessCell cell = new WirelessCell();
        cell.join(1);
        edges.due("ahead of its FRAME", cell.node(1, 6), 0);
        cell.go(3);
        edges.due("ahead of its last slot", cell.node(1, 6), 0);
        cell.go(1);
        edges.due("behind its last slot", cell.node(1, 6), 1);
        cell.go(3);
        edges.due("ahead of the ACK's last slot", cell.node(1, 6), 1);
        cell.go(1);
        edges.due("behind it", cell.node(1, 6), 0);
        edges.due("who sent the ACK waits for none", cell.node(0, 6), 0);
    }

    private void nextNumber() {
        WirelessCell cell = new WirelessCell();
        edges.due("at first", cell.node(8, 7), 0);
        cell.join(8);
        edges.due("behind one", cell.node(8, 7), 1);
        edges.due("of each node its own", cell.node(0, 7), 0);
        cell.go(4);
        edges.due("of the AP behind one", cell.node(0, 7), 1);
    }

    private void messagesDelivered() {
        WirelessCell cell = Cells.keyed(1);
        edges.due("none", cell.node(1, 8), 0);
        for (int n = 1; n <= 13; n++) {
            Cells.say(cell, 0, 1, 1);
            cell.go(40);
            edges.due("also those that are not kept", cell.node(1, 8), n);
        }
        edges.due("not at who says them", cell.node(0, 8), 0);
    }

    private void droppedAgain() {
        Others others = new Others(new WirelessCell());
        byte[] frame = others.frame(Others.END, 8, 2, 0, Others.ENDS);
        for (int n = 0; n < 3; n++) {
            edges.due("an ACK all the same", others.acks(frame), 1);
            edges.due("dropped there", others.cell.node(2, 9), n);
        }
        edges.due("not at another node", others.cell.node(1, 9), 0);
        edges.due("not as sealed", others.cell.node(2, 10), 0);
    }

    private void droppedSealed() {
        Others others = new Others(Cells.keyed(1));
        others.pn = 500;
        others.seal(69, 0, 0, Others.said(1));
        others.seal(69, 1, 0, Cells.said(1));
        others.seal(69, 3, 0, Cells.said(1));
        edges.due("a part that drops a MESSAGE of two parts, and itself", others.cell.node(0, 10), 1);
        others.seal(65, 2, 0, Cells.said(1));
        edges.due("the next one", others.cell.node(0, 10), 2);
        edges.due("not at another node", others.cell.node(1, 10), 0);
        others.sealBy(66, 0, 0, 0, Others.said(1));
        edges.due("at the station", others.cell.node(1, 10), 1);
        edges.due("not at the AP", others.cell.node(0, 10), 2);
        edges.due("not as sent again", others.cell.node(0, 9), 0);
    }

    private void wholeIsNotDropped() {
        Others others = new Others(Cells.keyed(1));
        others.pn = 500;
        others.seal(65, 0, 0, Cells.said(20));
        others.seal(65, 0, 0, Cells.said(7));
        others.seal(65, 0, 0, new byte[0]);
        edges.due("begins otherwise", others.cell.node(0, 10), 0);
        others.seal(65, 0, 9, Others.said(1));
        others.seal(65, 0, 1, Others.said(1));
        others.seal(65, 0, 2, Others.said(1));
        edges.due("is for nobody", others.cell.node(0, 10), 0);
        others.sealBy(66, 0, 9, 500, Others.said(1));
        edges.due("is from nobody", others.cell.node(1, 10), 0);
        edges.due("none is DELIVERED", others.cell.node(0, 8) + others.cell.node(1, 8), 0);
    }

    private void nodeOfOthers() {
        WirelessCell cell = Cells.keyed(1);
        int[] nodes = {MIN, -1, 9, MAX};
        for (int k : nodes) {
            for (int what = 0; what <= 10; what++) {
                edges.due("node(" + k + ", " + what + ")", cell.node(k, what), -1);
            }
        }
        int[] whats = {MIN, -1, 11, 12, MAX};
        for (int what : whats) {
            edges.due("node(0, " + what + ")", cell.node(0, what), -1);
            edges.due("node(8, " + what + ")", cell.node(8, what), -1);
        }
    }

    // ---- key

    private void keyBytes() {
        edges.due("side 0", Cells.key(Others.atStation(4).cell, 1, 0), Cells.tk(1));
        edges.due("side 1", Cells.key(Others.atAp(4).cell, 1, 1), Cells.tk(1));
        WirelessCell all = Cells.keyed(8);
        edges.due("station 8", Cells.key(all, 8, 0), Cells.tk(8));
        edges.due("station 8, side 1", Cells.key(all, 8, 1), Cells.tk(8));
        Others tried = Others.atStation(4);
        tried.put(tried.frame(Others.DATA, 2, 1, 0, Others.hand(1, new byte[32], null)));
        edges.due("TRIED is no TK yet", Cells.key(tried.cell, 1, 0), Cells.tk(1));
    }

    private void keyOfNone() {
        WirelessCell cell = Cells.keyed(1);
        int[] places = {MIN, -1, 16, 47, MAX};
        for (int i : places) {
            edges.due("byte " + i, cell.key(1, 0, i), -1);
            edges.due("byte " + i + ", side 1", cell.key(1, 1, i), -1);
        }
        int[] sides = {MIN, -1, 2, MAX};
        for (int side : sides) {
            edges.due("side " + side, cell.key(1, side, 0), -1);
        }
        int[] stations = {MIN, -1, 0, 2, 8, 9, MAX};
        for (int station : stations) {
            edges.due("station " + station, cell.key(station, 0, 0), -1);
            edges.due("station " + station + ", side 1", cell.key(station, 1, 15), -1);
        }
        edges.due("keyed at the AP alone", Others.atAp(4).cell.key(1, 0, 0), -1);
        edges.due("keyed at the station alone", Others.atStation(4).cell.key(1, 1, 0), -1);
        edges.due("joined", Others.atStation(3).cell.key(1, 0, 0), -1);
        edges.due("joined at the AP", Others.atAp(3).cell.key(1, 1, 0), -1);
    }

    // ---- delivered

    private void twelveAreKept() {
        WirelessCell cell = Cells.keyed(1);
        for (int n = 1; n <= 14; n++) {
            Cells.say(cell, 1, 0, n);
            cell.go(40);
            edges.due("the first", cell.delivered(0, 0, 1), 1);
            edges.due("the latest that is kept", cell.delivered(0, Math.min(n, 12) - 1, 1), Math.min(n, 12));
            edges.due("the one behind it", cell.delivered(0, Math.min(n, 12), 1), -1);
        }
    }

    private void deliveredBytes() {
        WirelessCell cell = Cells.keyed(1);
        Cells.say(cell, 1, 0, 0);
        Cells.say(cell, 1, 0, 200);
        Cells.load(cell, Reference.bytes(255, 0, 128));
        cell.submit(1, 0);
        cell.go(150);
        edges.due("from the station", cell.delivered(0, 0, 0), 1);
        edges.due("no bytes", cell.delivered(0, 0, 1), 0);
        edges.due("byte 0 of none", cell.delivered(0, 0, 10), -1);
        edges.due("200 bytes", cell.delivered(0, 1, 1), 200);
        edges.due("the first of 200", cell.delivered(0, 1, 10), Cells.said(200)[0] & 255);
        edges.due("the last of 200", cell.delivered(0, 1, 209), Cells.said(200)[199] & 255);
        edges.due("none behind it", cell.delivered(0, 1, 210), -1);
        edges.due("byte 255", cell.delivered(0, 2, 10), 255);
        edges.due("byte 0", cell.delivered(0, 2, 11), 0);
        edges.due("byte 128", cell.delivered(0, 2, 12), 128);
        Cells.say(cell, 0, 1, 3);
        cell.go(40);
        edges.due("from the AP", cell.delivered(1, 0, 0), 0);
    }

    private void deliveredOfNone() {
        WirelessCell cell = Cells.keyed(1);
        edges.due("none yet", cell.delivered(0, 0, 0), -1);
        Cells.say(cell, 1, 0, 3);
        cell.go(40);
        int[] nodes = {MIN, -1, 1, 8, 9, MAX};
        for (int k : nodes) {
            edges.due("node " + k, cell.delivered(k, 0, 0), -1);
        }
        int[] places = {MIN, -1, 1, 11, 12, MAX};
        for (int i : places) {
            edges.due("MESSAGE " + i, cell.delivered(0, i, 0), -1);
        }
        int[] whats = {MIN, -1, 2, 9, 13, 210, MAX};
        for (int what : whats) {
            edges.due("what " + what, cell.delivered(0, 0, what), -1);
        }
    }

    // ---- air

    private void airOfFrames() {
        WirelessCell cell = new WirelessCell();
        cell.join(8);
        Cells.load(cell, Cells.said(300));
        cell.put(0);
        cell.go(1);
        int[] others = {0, 9, 300, 12};
        int[] station = {0, 8, 34, 4};
        for (int what = 0; what < 4; what++) {
            edges.due("of others, " + what, cell.air(0, what), others[what]);
            edges.due("of station 8, " + what, cell.air(1, what), station[what]);
        }
        WirelessCell ap = new WirelessCell();
        ap.join(1);
        ap.go(6);
        edges.due("the AP's", ap.air(0, 1), 0);
        edges.due("its slots", ap.air(0, 3), 3);
        edges.due("its first slot", ap.air(0, 0), 5);
    }

    private void airOver() {
        WirelessCell cell = new WirelessCell();
        cell.join(1);
        cell.go(3);
        edges.due("ahead of its last slot", cell.air(0, 4), 2);
        cell.go(1);
        edges.due("behind its last slot, CLEAN", cell.air(0, 4), 1);
        WirelessCell spoiled = new WirelessCell();
        spoiled.join(1);
        spoiled.noise(0, 0);
        spoiled.go(3);
        edges.due("spoiled, ahead of its last slot", spoiled.air(0, 4), 2);
        spoiled.go(1);
        edges.due("behind it", spoiled.air(0, 4), 0);
        cell.go(10);
        int latest = cell.count(1);
        for (int i = 0; i < 2; i++) {
            Cells.load(cell, Cells.said(1));
            cell.put(cell.count(0));
        }
        cell.go(20);
        edges.due("behind others that collided, it was CLEAN all the same", cell.air(cell.count(1) - 1, 4), 1);
        edges.due("one of those that collided", cell.air(cell.count(1) - 1 - latest, 4), 0);
    }

    private void airBytes() {
        WirelessCell cell = new WirelessCell();
        Cells.load(cell, Cells.said(300));
        cell.put(0);
        Cells.load(cell, Reference.bytes(255));
        cell.put(20);
        cell.go(13);
        edges.due("the first of 300", cell.air(0, 10), Cells.said(300)[0] & 255);
        edges.due("the last of 300", cell.air(0, 309), Cells.said(300)[299] & 255);
        edges.due("none behind it", cell.air(0, 310), -1);
        cell.go(10);
        edges.due("the only one", cell.air(0, 10), 255);
        edges.due("none behind it", cell.air(0, 11), -1);
    }

    private void airOfNone() {
        WirelessCell cell = new WirelessCell();
        edges.due("none yet", cell.air(0, 0), -1);
        for (int n = 1; n <= 41; n++) {
            Cells.load(cell, new byte[n]);
            cell.put(cell.count(0));
            cell.go(5);
            edges.due("the oldest that is kept of " + n, cell.air(Math.min(n, 40) - 1, 2), Math.max(1, n - 39));
            edges.due("the one ahead of it", cell.air(Math.min(n, 40), 2), -1);
        }
        int[] places = {MIN, -1, 40, MAX};
        for (int i : places) {
            edges.due("FRAME " + i, cell.air(i, 0), -1);
        }
        int[] whats = {MIN, -1, 5, 9, 10 + 41, MAX};
        for (int what : whats) {
            edges.due("what " + what, cell.air(0, what), -1);
        }
    }

    // ---- count

    private void countSlots() {
        WirelessCell cell = new WirelessCell();
        edges.due("the first slot", cell.count(0), 0);
        edges.due("none began", cell.count(1), 0);
        cell.join(1);
        edges.due("none began yet", cell.count(1), 0);
        cell.go(1);
        edges.due("the second slot", cell.count(0), 1);
        edges.due("one began", cell.count(1), 1);
        cell.go(3000);
        cell.go(3000);
        edges.due("slots", cell.count(0), 6001);
        for (int n = 1; n <= 41; n++) {
            Cells.load(cell, Reference.bytes(n));
            cell.put(cell.count(0));
            cell.go(5);
        }
        edges.due("also those that are not kept", cell.count(1), 16 + 41);
    }

    private void countNotClean() {
        WirelessCell cell = new WirelessCell();
        cell.noise(0, 0);
        cell.join(1);
        cell.go(3);
        edges.due("not over", cell.count(2), 0);
        cell.go(1);
        edges.due("over and not CLEAN", cell.count(2), 1);
        WirelessCell clean = new WirelessCell();
        clean.join(1);
        clean.go(100);
        edges.due("over and CLEAN", clean.count(2), 0);
        WirelessCell two = new WirelessCell();
        two.join(1);
        two.join(8);
        two.go(4);
        edges.due("two over and not CLEAN", two.count(2), 2);
    }

    private void countTold() {
        WirelessCell cell = new WirelessCell();
        for (int what = 3; what <= 5; what++) {
            edges.due("none, " + what, cell.count(what), 0);
        }
        for (int i = 0; i < 201; i++) {
            cell.draw(0);
            cell.submit(1, 0);
        }
        Cells.load(cell, Cells.said(300));
        edges.due("DRAWS", cell.count(3), 200);
        edges.due("bytes", cell.count(4), 300);
        edges.due("SUBMISSIONS", cell.count(5), 200);
    }

    private void countQuietAndFailed() {
        WirelessCell cell = new WirelessCell();
        edges.due("no slot yet", cell.count(6), 0);
        edges.due("none FAILED", cell.count(7), 0);
        cell.go(3);
        edges.due("three QUIET ones", cell.count(6), 3);
        cell.noise(3, 3);
        cell.limit(2);
        cell.join(1);
        cell.go(7);
        edges.due("four are not", cell.count(6), 6);
        edges.due("none FAILED", cell.count(7), 0);
        cell.go(1);
        edges.due("QUIET", cell.count(6), 7);
        edges.due("FAILED in the fourth slot", cell.count(7), 1);
        cell.noise(11, 11);
        cell.go(8);
        edges.due("GIVEN UP", cell.node(1, 2), 0);
        edges.due("it FAILED, too", cell.count(7), 2);
    }

    private void countPut() {
        WirelessCell cell = new WirelessCell();
        edges.due("none", cell.count(8), 0);
        for (int n = 1; n <= 21; n++) {
            Cells.load(cell, Cells.said(1));
            cell.put(10 * n);
            edges.due("put " + n, cell.count(8), Math.min(n, 20));
        }
        cell.go(10);
        edges.due("ahead of the first", cell.count(8), 20);
        cell.go(1);
        edges.due("it began", cell.count(8), 19);
        cell.go(300);
        edges.due("all began", cell.count(8), 0);
    }

    private void countOfOthers() {
        WirelessCell cell = Cells.keyed(1);
        int[] whats = {MIN, -1, 9, 10, MAX};
        for (int what : whats) {
            edges.due("count(" + what + ")", cell.count(what), -1);
        }
    }
}
