/** Promises 16 to 20: what nodes are told to do. */
final class EdgesOfSaid {
    private static final int MIN = Integer.MIN_VALUE;
    private static final int MAX = Integer.MAX_VALUE;
    private static final int[] NO_STATION = {MIN, -1, 0, 9, MAX};

    private final Edges edges;

    EdgesOfSaid(Edges edges) {
        this.edges = edges;
    }

    void all() {
        edges.sentence("Promise 16", "A station asks to join: it is none, without key", this::joinOfKeyed);
        edges.sentence("Promise 16", "AUTH is QUEUED: 0 (also if it is lost)", this::joinLost);
        edges.sentence("Promise 16", "NONE.", this::joinOfNoStation);
        edges.sentence("Promise 17", "A station leaves: it is none, without key, has not asked to join",
                this::leaveInEachState);
        edges.sentence("Promise 17", "END with this reason (0 .. 255) is QUEUED: 0", this::leaveReasons);
        edges.sentence("Promise 17", "NONE.", this::leaveRefused);
        edges.sentence("Promise 18", "The TAPE (0 .. 200 bytes; it is empty then) is said by a node to another one",
                this::submitBytes);
        edges.sentence("Promise 18", "(one of both may be the AP)", this::submitPairs);
        edges.sentence("Promise 18", "the SUBMISSION's number", this::submitNumbers);
        edges.sentence("Promise 18", "NONE: no such nodes,", this::submitNoNodes);
        edges.sentence("Promise 18", "the same,", this::submitToItself);
        edges.sentence("Promise 18", "a longer TAPE,", this::submitTooLong);
        edges.sentence("Promise 18", "or 200 there are.", this::submitTwoHundred);
        edges.sentence("Promise 18", "(It is not QUEUED, if its END is 3 or 4.)", this::submitNotQueued);
        edges.sentence("Promise 19", "So many slots go (0 .. 3,000): how many FRAMES began", this::goAtEdges);
        edges.sentence("Promise 19", "NONE.", this::goOutside);
        edges.sentence("Promise 20", "END of a SUBMISSION; NONE without it.", this::ended);
    }

    private void joinOfKeyed() {
        for (int state = 1; state <= 4; state++) {
            Others others = Others.atStation(state);
            edges.due("STATE " + state, others.stateAtStation(), state);
            others.cell.join(1);
            edges.due("none", others.stateAtStation(), 1);
            edges.due("without key", others.cell.key(1, 0, 0), -1);
        }
        Others keyed = Others.atAp(4);
        keyed.cell.join(1);
        edges.due("as the AP has it, all is as it was", keyed.stateAtAp(), 4);
        edges.due("also its key", Cells.key(keyed.cell, 1, 1), Cells.tk(1));
    }

    private void joinLost() {
        Others others = new Others(new WirelessCell());
        WirelessCell cell = others.cell;
        for (int i = 0; i < 12; i++) {
            edges.due("leave", cell.leave(1, 3), 0);
        }
        edges.due("the thirteenth is lost", cell.join(1), 0);
        edges.due("in the QUEUE", cell.node(1, 2), 12);
        edges.due("the next sequence number", cell.node(1, 7), 12);
        others.lose();
        others.lose();
        edges.due("all were GIVEN UP", cell.node(1, 2), 0);
        others.put(others.frame(Others.AUTH, 0, 1, 0, Others.AUTH_2));
        edges.due("it has asked to join all the same", others.stateAtStation(), 2);
        Others keyed = Others.atStation(4);
        for (int i = 0; i < 12; i++) {
            keyed.cell.submit(1, 0);
        }
        edges.due("lost", keyed.cell.join(1), 0);
        edges.due("none all the same", keyed.stateAtStation(), 1);
        edges.due("without key all the same", keyed.cell.key(1, 0, 0), -1);
    }

    private void joinOfNoStation() {
        WirelessCell cell = new WirelessCell();
        for (int k : NO_STATION) {
            edges.due("join(" + k + ")", cell.join(k), -1);
        }
        edges.due("nobody sends", cell.go(100), 0);
        edges.due("join(1)", cell.join(1), 0);
        edges.due("join(8)", cell.join(8), 0);
        edges.due("both send", cell.go(1), 2);
    }

    private void leaveInEachState() {
        for (int state = 1; state <= 4; state++) {
            Others others = Others.atStation(state);
            others.cell.leave(1, 3);
            edges.due("none, which had STATE " + state, others.stateAtStation(), 1);
            edges.due("without key", others.cell.key(1, 0, 0), -1);
            others.lose();
            others.put(others.frame(Others.AUTH, 0, 1, 0, Others.AUTH_2));
            edges.due("it has not asked to join", others.stateAtStation(), 1);
        }
    }

    private void leaveReasons() {
        int[] reasons = {0, 1, 255};
        for (int reason : reasons) {
            WirelessCell cell = new WirelessCell();
            edges.due("leave(8, " + reason + ")", cell.leave(8, reason), 0);
            cell.go(1);
            edges.due("END", Cells.frame(cell, 0), Reference.withFcs(Reference.join(
                    Reference.header(192, 0, 0, 8, 0, 0), Reference.bytes(reason, 0))));
        }
        WirelessCell full = new WirelessCell();
        for (int i = 0; i < 13; i++) {
            edges.due("END " + i, full.leave(1, i), 0);
        }
        edges.due("the thirteenth is lost", full.node(1, 7), 12);
    }

    private void leaveRefused() {
        Others others = Others.atStation(4);
        int[] reasons = {MIN, -1, 256, MAX};
        for (int reason : reasons) {
            edges.due("leave(1, " + reason + ")", others.cell.leave(1, reason), -1);
        }
        for (int k : NO_STATION) {
            edges.due("leave(" + k + ", 3)", others.cell.leave(k, 3), -1);
        }
        edges.due("the station is as it was", others.stateAtStation(), 4);
        edges.due("nobody sends", others.cell.go(100), 0);
    }

    private void submitBytes() {
        WirelessCell cell = Cells.keyed(1);
        edges.due("no bytes", cell.submit(1, 0), 0);
        Cells.load(cell, Cells.said(200));
        edges.due("200 bytes", cell.submit(1, 0), 1);
        edges.due("the TAPE is empty then", cell.count(4), 0);
        cell.go(100);
        edges.due("no bytes are DELIVERED", cell.delivered(0, 0, 1), 0);
        edges.due("200 bytes are DELIVERED", Cells.delivered(cell, 0, 1), Cells.said(200));
        Cells.load(cell, Cells.said(9));
        cell.submit(2, 0);
        edges.due("not keyed, and the TAPE is empty then, too", cell.count(4), 0);
    }

    private void submitPairs() {
        WirelessCell cell = Cells.keyed(2);
        int[][] pairs = {{1, 0}, {0, 1}, {1, 2}, {2, 1}, {0, 2}};
        for (int[] pair : pairs) {
            int before = cell.node(pair[1], 8);
            Cells.say(cell, pair[0], pair[1], 5);
            cell.go(60);
            edges.due("DELIVERED at " + pair[1], cell.node(pair[1], 8), before + 1);
            edges.due("from " + pair[0], cell.delivered(pair[1], before, 0), pair[0]);
        }
    }

    private void submitNumbers() {
        WirelessCell cell = new WirelessCell();
        edges.due("the first", cell.submit(1, 0), 0);
        cell.submit(1, 1);
        cell.submit(9, 0);
        edges.due("the second, refused ones have none", cell.submit(0, 8), 1);
        edges.due("the third", cell.submit(8, 1), 2);
        edges.due("SUBMISSIONS", cell.count(5), 3);
    }

    private void submitNoNodes() {
        WirelessCell cell = Cells.keyed(1);
        Cells.load(cell, Cells.said(5));
        int[] none = {MIN, -1, 9, MAX};
        for (int k : none) {
            edges.due("from " + k, cell.submit(k, 1), -1);
            edges.due("to " + k, cell.submit(1, k), -1);
            edges.due("from the AP to " + k, cell.submit(0, k), -1);
        }
        edges.due("the TAPE stays", Cells.tape(cell), Cells.said(5));
        edges.due("SUBMISSIONS", cell.count(5), 0);
        edges.due("to 8, which is a node", cell.submit(1, 8), 0);
    }

    private void submitToItself() {
        WirelessCell cell = Cells.keyed(1);
        Cells.load(cell, Cells.said(5));
        for (int k = 0; k <= 9; k++) {
            edges.due("from and to " + k, cell.submit(k, k), -1);
        }
        edges.due("the TAPE stays", Cells.tape(cell), Cells.said(5));
        edges.due("SUBMISSIONS", cell.count(5), 0);
    }

    private void submitTooLong() {
        WirelessCell cell = Cells.keyed(1);
        int[] longer = {300, 201};
        Cells.load(cell, Cells.said(300));
        for (int bytes : longer) {
            cell.end(bytes);
            edges.due(bytes + " bytes", cell.submit(1, 0), -1);
            edges.due("the TAPE stays", cell.count(4), bytes);
        }
        edges.due("SUBMISSIONS", cell.count(5), 0);
        edges.due("nothing is QUEUED", cell.node(1, 2), 0);
        cell.end(200);
        edges.due("200 bytes", cell.submit(1, 0), 0);
    }

    private void submitTwoHundred() {
        WirelessCell cell = new WirelessCell();
        for (int i = 0; i < 200; i++) {
            edges.due("SUBMISSION", cell.submit(1, 0), i);
        }
        Cells.load(cell, Cells.said(5));
        edges.due("one more", cell.submit(1, 0), -1);
        edges.due("the TAPE stays", Cells.tape(cell), Cells.said(5));
        edges.due("SUBMISSIONS", cell.count(5), 200);
        edges.due("the last one", cell.ended(199), 4);
    }

    private void submitNotQueued() {
        WirelessCell cell = Cells.keyed(1);
        cell.submit(2, 0);
        edges.due("not keyed", cell.ended(0), 4);
        edges.due("it is not QUEUED", cell.node(2, 2), 0);
        edges.due("it has no sequence number", cell.node(2, 7), 0);
        for (int i = 1; i <= 13; i++) {
            cell.submit(1, 0);
        }
        edges.due("the twelfth", cell.ended(12), 0);
        edges.due("lost", cell.ended(13), 3);
        edges.due("it is not QUEUED", cell.node(1, 2), 12);
        edges.due("it has no sequence number", cell.node(1, 7), 4 + 12);
        cell.go(1000);
        edges.due("twelve were said", cell.node(0, 8), 12);
        edges.due("lost for ever", cell.ended(13), 3);
        edges.due("not keyed for ever", cell.ended(0), 4);
    }

    private void goAtEdges() {
        WirelessCell cell = new WirelessCell();
        edges.due("go(0)", cell.go(0), 0);
        edges.due("no slot went", cell.count(0), 0);
        cell.join(1);
        edges.due("go(0)", cell.go(0), 0);
        edges.due("none began", cell.count(1), 0);
        edges.due("go(1)", cell.go(1), 1);
        edges.due("the next slot", cell.count(0), 1);
        edges.due("its ACK begins in slot 5: go(4)", cell.go(4), 0);
        edges.due("go(1)", cell.go(1), 1);
        edges.due("go(3000), the others of 16", cell.go(3000), 14);
        edges.due("the next slot", cell.count(0), 3006);
    }

    private void goOutside() {
        WirelessCell cell = new WirelessCell();
        cell.join(1);
        int[] others = {MIN, -1, 3001, MAX};
        for (int slots : others) {
            edges.due("go(" + slots + ")", cell.go(slots), -1);
        }
        edges.due("no slot went", cell.count(0), 0);
        edges.due("none began", cell.count(1), 0);
    }

    private void ended() {
        WirelessCell cell = new WirelessCell();
        edges.due("none yet", cell.ended(0), -1);
        cell.submit(1, 0);
        cell.submit(2, 0);
        edges.due("the first", cell.ended(0), 4);
        edges.due("the second", cell.ended(1), 4);
        int[] none = {MIN, -1, 2, 199, 200, MAX};
        for (int submission : none) {
            edges.due("ended(" + submission + ")", cell.ended(submission), -1);
        }
    }
}
