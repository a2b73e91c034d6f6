/** Promises 1 to 7, and the 512 calls for which an object is used. */
final class EdgesOfTape {
    private static final int MIN = Integer.MIN_VALUE;
    private static final int MAX = Integer.MAX_VALUE;

    private final Edges edges;

    EdgesOfTape(Edges edges) {
        this.edges = edges;
    }

    void all() {
        edges.sentence("What it is", "An object is used for at most 512 calls after it has been made",
                this::lastCall);
        edges.sentence("Promise 1", "Nobody has joined", this::nobodyHasJoined);
        edges.sentence("Promise 1", "slot 0 is next", this::slotZeroIsNext);
        edges.sentence("Promise 1", "an empty TAPE", this::emptyTape);
        edges.sentence("Promise 2", "Twenty bytes come behind the TAPE, the highest of each number first: how many it "
                + "has.", this::feedBehind);
        edges.sentence("Promise 2", "NONE, if there would be more than 300.", this::feedTooMuch);
        edges.sentence("Promise 3", "The TAPE has its first n bytes alone: n.", this::endAtEdges);
        edges.sentence("Promise 3", "NONE, if it has not so many", this::endTooLarge);
        edges.sentence("Promise 3", "or n is below 0.", this::endTooSmall);
        edges.sentence("Promise 4", "Byte i of the TAPE is altered by what mask (1 .. 255) has of bits: what it is then",
                this::alterAtEdges);
        edges.sentence("Promise 4", "NONE without it", this::alterNoByte);
        edges.sentence("Promise 4", "for another mask.", this::alterByOtherMask);
        edges.sentence("Promise 5", "The FCS of the TAPE comes behind it: how many bytes it has", this::checkOfNothing);
        edges.sentence("Promise 5", "NONE, if there would be more than 300.", this::checkTooLong);
        edges.sentence("Promise 6", "The TAPE becomes the i-th latest FRAME that began", this::copyInsteadOfTape);
        edges.sentence("Promise 6", "0 the latest; the latest 40 are kept", this::copyOfForty);
        edges.sentence("Promise 6", "NONE without it.", this::copyOfNone);
        edges.sentence("Promise 7", "Byte i of the TAPE (0 .. 255)", this::tapeAtEdges);
        edges.sentence("Promise 7", "NONE.", this::tapeOutside);
    }

    private static WirelessCell withTape(int bytes) {
        WirelessCell cell = new WirelessCell();
        Cells.load(cell, Cells.said(bytes));
        return cell;
    }

    private void lastCall() {
        WirelessCell cell = new WirelessCell();
        for (int call = 1; call <= 510; call++) {
            edges.due("call " + call, cell.go(3000), 0);
        }
        edges.due("call 511", cell.join(8), 0);
        edges.due("call 512", cell.go(3000), 16);
    }

    private void nobodyHasJoined() {
        WirelessCell cell = new WirelessCell();
        for (int k = 1; k <= 8; k++) {
            edges.due("station " + k, cell.node(k, 0), 1);
            edges.due("station " + k + " as the AP has it", cell.node(k, 1), 1);
            edges.due("its key", cell.key(k, 0, 0), -1);
            edges.due("its key at the AP", cell.key(k, 1, 0), -1);
        }
        edges.due("none is keyed", cell.node(0, 0), 0);
        edges.due("nobody sends", cell.go(3000), 0);
    }

    private void slotZeroIsNext() {
        WirelessCell cell = new WirelessCell();
        edges.due("the next slot", cell.count(0), 0);
        cell.join(1);
        cell.go(1);
        edges.due("a FRAME that begins at once", cell.air(0, 0), 0);
    }

    private void emptyTape() {
        WirelessCell cell = new WirelessCell();
        edges.due("bytes", cell.count(4), 0);
        edges.due("byte 0", cell.tape(0), -1);
        edges.due("end(1)", cell.end(1), -1);
        edges.due("alter(0, 1)", cell.alter(0, 1), -1);
    }

    private void feedBehind() {
        WirelessCell cell = new WirelessCell();
        edges.due("behind nothing", cell.feed(0x80FF7F00, MIN, MAX, -1, 0x01020304), 20);
        edges.due("all twenty", Cells.tape(cell), Reference.bytes(128, 255, 127, 0, 128, 0, 0, 0, 127, 255, 255, 255,
                255, 255, 255, 255, 1, 2, 3, 4));
        cell.end(1);
        edges.due("behind one byte", cell.feed(0x05060708, 0, 0, 0, 9), 21);
        edges.due("the byte ahead", cell.tape(0), 128);
        edges.due("the first one behind it", cell.tape(1), 5);
        edges.due("the last one", cell.tape(20), 9);
    }

    private void feedTooMuch() {
        WirelessCell cell = withTape(280);
        edges.due("280 and 20", cell.feed(1, 2, 3, 4, 5), 300);
        edges.due("300 and 20", cell.feed(1, 2, 3, 4, 6), -1);
        edges.due("the TAPE stays", cell.count(4), 300);
        edges.due("its last byte", cell.tape(299), 5);
        WirelessCell longer = withTape(281);
        edges.due("281 and 20", longer.feed(1, 2, 3, 4, 5), -1);
        edges.due("the TAPE stays", longer.count(4), 281);
        edges.due("its last byte", longer.tape(280), Cells.said(281)[280] & 255);
        edges.due("nothing behind it", longer.tape(281), -1);
    }

    private void endAtEdges() {
        WirelessCell cell = withTape(300);
        edges.due("all of them", cell.end(300), 300);
        edges.due("all stay", cell.tape(299), Cells.said(300)[299] & 255);
        edges.due("all but one", cell.end(299), 299);
        edges.due("the last one is gone", cell.tape(299), -1);
        edges.due("the one ahead stays", cell.tape(298), Cells.said(300)[298] & 255);
        edges.due("one", cell.end(1), 1);
        edges.due("the first stays", cell.tape(0), Cells.said(1)[0] & 255);
        edges.due("none", cell.end(0), 0);
        edges.due("none of none", cell.end(0), 0);
        edges.due("bytes", cell.count(4), 0);
    }

    private void endTooLarge() {
        WirelessCell cell = withTape(20);
        edges.due("one too many", cell.end(21), -1);
        edges.due("MAX", cell.end(MAX), -1);
        edges.due("the TAPE stays", Cells.tape(cell), Cells.said(20));
        cell.end(19);
        edges.due("as many as there were", cell.end(20), -1);
        cell.end(0);
        edges.due("one of none", cell.end(1), -1);
    }

    private void endTooSmall() {
        WirelessCell cell = withTape(20);
        edges.due("-1", cell.end(-1), -1);
        edges.due("MIN", cell.end(MIN), -1);
        edges.due("the TAPE stays", Cells.tape(cell), Cells.said(20));
        edges.due("0 is not below", cell.end(0), 0);
    }

    private void alterAtEdges() {
        WirelessCell cell = new WirelessCell();
        cell.feed(0x0F000000, 0, 0, 0, 0x000000F0);
        edges.due("the first byte by 255", cell.alter(0, 255), 0xF0);
        edges.due("and back", cell.alter(0, 255), 0x0F);
        edges.due("by 1", cell.alter(0, 1), 0x0E);
        edges.due("by 128", cell.alter(0, 128), 0x8E);
        edges.due("the last byte by 255", cell.alter(19, 255), 0x0F);
        edges.due("what it is then", cell.tape(19), 0x0F);
        edges.due("no other byte", cell.tape(1), 0);
        edges.due("no other byte", cell.tape(18), 0);
    }

    private void alterNoByte() {
        WirelessCell cell = new WirelessCell();
        edges.due("of an empty TAPE", cell.alter(0, 1), -1);
        cell.feed(1, 2, 3, 4, 5);
        int[] none = {MIN, -1, 20, 300, MAX};
        for (int i : none) {
            edges.due("byte " + i, cell.alter(i, 1), -1);
        }
        cell.end(7);
        edges.due("a byte that is gone", cell.alter(7, 1), -1);
    }

    private void alterByOtherMask() {
        WirelessCell cell = new WirelessCell();
        cell.feed(0x5A000000, 0, 0, 0, 0);
        int[] others = {MIN, -255, -1, 0, 256, 257, 511, MAX};
        for (int mask : others) {
            edges.due("mask " + mask, cell.alter(0, mask), -1);
            edges.due("the byte stays", cell.tape(0), 0x5A);
        }
    }

    private void checkOfNothing() {
        WirelessCell cell = new WirelessCell();
        edges.due("of an empty TAPE", cell.check(), 4);
        edges.due("its four bytes", Cells.tape(cell), new byte[4]);
        edges.due("once more", cell.check(), 8);
        edges.due("the lowest byte first", Cells.tape(cell), Reference.withFcs(new byte[4]));
    }

    private void checkTooLong() {
        WirelessCell fits = withTape(296);
        edges.due("296 and 4", fits.check(), 300);
        edges.due("its last byte", fits.tape(299), Reference.withFcs(Cells.said(296))[299] & 255);
        int[] longer = {297, 299, 300};
        for (int bytes : longer) {
            WirelessCell cell = withTape(bytes);
            edges.due(bytes + " and 4", cell.check(), -1);
            edges.due("the TAPE stays", cell.count(4), bytes);
            edges.due("its last byte", cell.tape(bytes - 1), Cells.said(bytes)[bytes - 1] & 255);
        }
    }

    private void copyInsteadOfTape() {
        WirelessCell cell = withTape(1);
        cell.put(0);
        Cells.load(cell, Cells.said(300));
        cell.put(50);
        cell.go(51);
        edges.due("one that isn't over, instead of none", cell.copy(0), 300);
        edges.due("its last byte", cell.tape(299), Cells.said(300)[299] & 255);
        edges.due("a short one instead of a long one", cell.copy(1), 1);
        edges.due("nothing is left of the long one", cell.tape(1), -1);
        edges.due("bytes", cell.count(4), 1);
    }

    private void copyOfForty() {
        WirelessCell cell = new WirelessCell();
        for (int n = 1; n <= 42; n++) {
            Cells.load(cell, new byte[n]);
            cell.put(cell.count(0));
            cell.go(5);
            edges.due("the latest of " + n, cell.copy(0), n);
            edges.due("the oldest that is kept of " + n, cell.copy(Math.min(n, 40) - 1), Math.max(1, n - 39));
            edges.due("the one ahead of it", cell.copy(Math.min(n, 40)), -1);
        }
    }

    private void copyOfNone() {
        WirelessCell cell = withTape(20);
        edges.due("before any began", cell.copy(0), -1);
        edges.due("the TAPE stays", Cells.tape(cell), Cells.said(20));
        cell.put(1);
        cell.feed(1, 2, 3, 4, 5);
        cell.go(1);
        edges.due("one that has not begun", cell.copy(0), -1);
        cell.go(1);
        edges.due("it began", cell.copy(0), 20);
        int[] none = {MIN, -1, 1, 39, 40, MAX};
        for (int i : none) {
            edges.due("copy(" + i + ")", cell.copy(i), -1);
        }
        edges.due("the TAPE stays", Cells.tape(cell), Cells.said(20));
    }

    private void tapeAtEdges() {
        WirelessCell cell = new WirelessCell();
        cell.feed(0xFF800000, 0, 0, 0, 0x7F01);
        edges.due("255", cell.tape(0), 255);
        edges.due("128", cell.tape(1), 128);
        edges.due("0", cell.tape(2), 0);
        edges.due("127", cell.tape(18), 127);
        edges.due("the last one", cell.tape(19), 1);
        WirelessCell full = withTape(300);
        edges.due("the last one of 300", full.tape(299), Cells.said(300)[299] & 255);
    }

    private void tapeOutside() {
        WirelessCell cell = withTape(300);
        int[] none = {MIN, -1, 300, MAX};
        for (int i : none) {
            edges.due("tape(" + i + ") of 300", cell.tape(i), -1);
        }
        cell.end(1);
        edges.due("tape(1) of one", cell.tape(1), -1);
        cell.end(0);
        edges.due("tape(0) of none", cell.tape(0), -1);
    }
}
