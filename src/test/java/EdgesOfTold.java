/** Promises 8 to 15: what is told to a cell. */
final class EdgesOfTold {
    private static final int MIN = Integer.MIN_VALUE;
    private static final int MAX = Integer.MAX_VALUE;
    private static final int[] NO_STATION = {MIN, -1, 0, 9, MAX};
    private static final int[] NO_NODE = {MIN, -1, 9, MAX};

    private final Edges edges;

    EdgesOfTold(Edges edges) {
        this.edges = edges;
    }

    void all() {
        edges.sentence("Promise 8", "A station's SECRET: 0; NONE: no station.", this::secret);
        edges.sentence("Promise 9", "The AP's SECRET for it: 0; NONE.", this::known);
        edges.sentence("Promise 10", "A node's NONCE: 0; NONE: no node.", this::nonce);
        edges.sentence("Promise 11", "SIZE of parts that are cut from now on (16 .. 255): what it was; NONE.",
                this::size);
        edges.sentence("Promise 11", "(What is QUEUED is cut as it was then.)", this::sizeOfQueued);
        edges.sentence("Promise 12", "LIMIT: what it was; NONE.", this::limit);
        edges.sentence("Promise 13", "One more DRAW: how many are left", this::drawsLeft);
        edges.sentence("Promise 13", "NONE (200,", this::drawOfTwoHundred);
        edges.sentence("Promise 13", "or not 0 .. 127)", this::drawOutside);
        edges.sentence("Promise 14", "NOISE in slots from one to another one", this::noiseOfOneSlot);
        edges.sentence("Promise 14", "not ahead of the next slot", this::noiseAhead);
        edges.sentence("Promise 14", "at most 2,000 of them", this::noiseTooLong);
        edges.sentence("Promise 14", "how often it was told; NONE (30, or not so)", this::noiseThirtyTimes);
        edges.sentence("Promise 15", "Others put the TAPE (1 .. 300 bytes; it is empty then) on the air in a slot",
                this::putBytes);
        edges.sentence("Promise 15", "not ahead of the next one", this::putAhead);
        edges.sentence("Promise 15", "how many such there are; NONE (20, those on the air or behind aside; the TAPE "
                + "stays).", this::putTwenty);
    }

    /** Station k is keyed by both sides, and by which key. */
    private void dueKey(String what, WirelessCell cell, int k, byte[] secret, byte[] apNonce, byte[] nonce) {
        cell.join(k);
        cell.go(200);
        byte[] tk = Reference.tk(Reference.ptk(secret, k, apNonce, nonce));
        edges.due(what, Cells.key(cell, k, 0), tk);
        edges.due(what + ", at the AP", Cells.key(cell, k, 1), tk);
    }

    private void secret() {
        WirelessCell cell = new WirelessCell();
        int[] stations = {1, 8};
        for (int k : stations) {
            edges.due("station " + k, cell.secret(k, Long.MIN_VALUE, Long.MAX_VALUE, -1, k), 0);
            cell.known(k, Long.MIN_VALUE, Long.MAX_VALUE, -1, k);
        }
        for (int k : NO_STATION) {
            edges.due("station " + k, cell.secret(k, 1, 2, 3, 4), -1);
        }
        for (int k : stations) {
            dueKey("the key of " + k, cell, k, Reference.longs(Long.MIN_VALUE, Long.MAX_VALUE, -1, k), new byte[32],
                    new byte[32]);
        }
    }

    private void known() {
        WirelessCell cell = new WirelessCell();
        int[] stations = {1, 8};
        for (int k : stations) {
            edges.due("station " + k, cell.known(k, -1, Long.MIN_VALUE, 0, k), 0);
            cell.secret(k, -1, Long.MIN_VALUE, 0, k);
        }
        for (int k : NO_STATION) {
            edges.due("station " + k, cell.known(k, 1, 2, 3, 4), -1);
        }
        for (int k : stations) {
            dueKey("the key of " + k, cell, k, Reference.longs(-1, Long.MIN_VALUE, 0, k), new byte[32], new byte[32]);
        }
    }

    private void nonce() {
        WirelessCell cell = new WirelessCell();
        int[] nodes = {0, 1, 8};
        for (int k : nodes) {
            edges.due("node " + k, cell.nonce(k, k, Long.MAX_VALUE, Long.MIN_VALUE, -1), 0);
        }
        for (int k : NO_NODE) {
            edges.due("node " + k, cell.nonce(k, 1, 2, 3, 4), -1);
        }
        byte[] apNonce = Reference.longs(0, Long.MAX_VALUE, Long.MIN_VALUE, -1);
        for (int k = 1; k <= 8; k += 7) {
            dueKey("the key of " + k, cell, k, new byte[32], apNonce,
                    Reference.longs(k, Long.MAX_VALUE, Long.MIN_VALUE, -1));
        }
    }

    private void size() {
        WirelessCell cell = Cells.keyed(1);
        int[] others = {MIN, -16, -1, 0, 15, 256, MAX};
        for (int bytes : others) {
            edges.due("size(" + bytes + ")", cell.size(bytes), -1);
        }
        edges.due("16, 255 so far", cell.size(16), 255);
        for (int bytes : others) {
            edges.due("size(" + bytes + ")", cell.size(bytes), -1);
        }
        Cells.say(cell, 1, 0, 9);
        cell.go(1);
        edges.due("17 bytes are cut behind 16", cell.air(0, 2), 44 + 16);
        edges.due("255, 16 so far", cell.size(255), 16);
        edges.due("16, 255 so far", cell.size(16), 255);
    }

    private void sizeOfQueued() {
        WirelessCell cell = Cells.keyed(1);
        cell.size(20);
        Cells.say(cell, 1, 0, 32);
        Cells.say(cell, 1, 0, 32);
        cell.size(16);
        cell.go(1);
        edges.due("the first part", cell.air(0, 2), 44 + 20);
        cell.size(255);
        cell.go(40);
        edges.due("the second MESSAGE's first part", cell.air(3, 2), 44 + 20);
        edges.due("the last part", cell.air(1, 2), 44 + 20);
        edges.due("both are DONE", cell.ended(0) + cell.ended(1), 2);
    }

    private void limit() {
        WirelessCell cell = new WirelessCell();
        int[] others = {MIN, -1, 0, 16, MAX};
        for (int tries : others) {
            edges.due("limit(" + tries + ")", cell.limit(tries), -1);
        }
        edges.due("15, 4 so far", cell.limit(15), 4);
        edges.due("1, 15 so far", cell.limit(1), 15);
        for (int tries : others) {
            edges.due("limit(" + tries + ")", cell.limit(tries), -1);
        }
        edges.due("15, 1 so far", cell.limit(15), 1);
    }

    private void drawsLeft() {
        WirelessCell cell = new WirelessCell();
        edges.due("the first", cell.draw(3), 1);
        edges.due("the second", cell.draw(4), 2);
        cell.join(1);
        edges.due("one was taken", cell.draw(5), 2);
        cell.join(2);
        cell.join(3);
        edges.due("none was left", cell.draw(6), 1);
    }

    private void drawOfTwoHundred() {
        WirelessCell cell = new WirelessCell();
        for (int n = 1; n <= 200; n++) {
            edges.due("the " + n + "th", cell.draw(n % 8), n);
        }
        edges.due("the 201st", cell.draw(7), -1);
        edges.due("200 are left", cell.count(3), 200);
        cell.join(1);
        edges.due("the first is taken", cell.node(1, 3), 1);
        edges.due("so there is room for one", cell.draw(6), 200);
        edges.due("and for no more", cell.draw(7), -1);
    }

    private void drawOutside() {
        WirelessCell cell = new WirelessCell();
        int[] others = {MIN, -1, 128, 255, MAX};
        for (int v : others) {
            edges.due("draw(" + v + ")", cell.draw(v), -1);
            edges.due("none is left", cell.count(3), 0);
        }
        edges.due("draw(0)", cell.draw(0), 1);
        edges.due("draw(127)", cell.draw(127), 2);
    }

    /** Whether a FRAME of three slots that begins in a slot is CLEAN. */
    private static int cleanFrom(WirelessCell cell, int slot) {
        cell.end(0);
        cell.check();
        cell.put(slot);
        cell.go(slot + 3 - cell.count(0));
        return cell.air(0, 4);
    }

    private void noiseOfOneSlot() {
        WirelessCell cell = new WirelessCell();
        edges.due("one slot", cell.noise(10, 10), 1);
        edges.due("from 30 to 31", cell.noise(30, 31), 2);
        edges.due("from 51 to 50", cell.noise(51, 50), -1);
        edges.due("from 50 to MIN", cell.noise(50, MIN), -1);
        edges.due("slots 7 .. 9", cleanFrom(cell, 7), 1);
        edges.due("slots 10 .. 12", cleanFrom(cell, 10), 0);
        edges.due("slots 13 .. 15", cleanFrom(cell, 13), 1);
        edges.due("slots 28 .. 30", cleanFrom(cell, 28), 0);
        edges.due("slots 31 .. 33", cleanFrom(cell, 31), 0);
        edges.due("slots 34 .. 36", cleanFrom(cell, 34), 1);
        edges.due("what was refused is no NOISE", cleanFrom(cell, 49), 1);
    }

    private void noiseAhead() {
        WirelessCell cell = new WirelessCell();
        edges.due("ahead of slot 0", cell.noise(-1, 5), -1);
        edges.due("from MIN", cell.noise(MIN, MAX), -1);
        edges.due("slots 0 .. 2 are without", cleanFrom(cell, 0), 1);
        cell.go(7);
        edges.due("from 9, 10 is next", cell.noise(9, 12), -1);
        edges.due("from 9 to 9", cell.noise(9, 9), -1);
        edges.due("slots 10 .. 12 are without", cleanFrom(cell, 10), 1);
        edges.due("from 13, 13 is next", cell.noise(13, 13), 1);
        edges.due("slots 13 .. 15", cleanFrom(cell, 13), 0);
    }

    private void noiseTooLong() {
        WirelessCell cell = new WirelessCell();
        edges.due("2,001 of them", cell.noise(10, 2010), -1);
        edges.due("to MAX", cell.noise(0, MAX), -1);
        edges.due("slots 10 .. 12 are without", cleanFrom(cell, 10), 1);
        edges.due("2,000 of them", cell.noise(20, 2019), 1);
        edges.due("the last 2,000 that have a number", cell.noise(MAX - 1999, MAX), 2);
        edges.due("2,001 of those", cell.noise(MAX - 2000, MAX), -1);
        edges.due("slots 2017 .. 2019", cleanFrom(cell, 2017), 0);
        edges.due("slots 2020 .. 2022", cleanFrom(cell, 2020), 1);
    }

    private void noiseThirtyTimes() {
        WirelessCell cell = new WirelessCell();
        for (int n = 1; n <= 29; n++) {
            edges.due("told " + n + " times", cell.noise(5, 5), n);
            edges.due("what is not so does not count", cell.noise(5, 4), -1);
        }
        edges.due("told 30 times", cell.noise(20, 20), 30);
        edges.due("told 31 times", cell.noise(40, 40), -1);
        edges.due("slots 18 .. 20", cleanFrom(cell, 18), 0);
        edges.due("slots 40 .. 42", cleanFrom(cell, 40), 1);
        edges.due("also when all is over", cell.noise(100, 100), -1);
    }

    private void putBytes() {
        WirelessCell cell = new WirelessCell();
        edges.due("an empty TAPE", cell.put(5), -1);
        edges.due("none is put", cell.count(8), 0);
        Cells.load(cell, Cells.said(1));
        edges.due("one byte", cell.put(0), 1);
        edges.due("the TAPE is empty then", cell.count(4), 0);
        edges.due("so that it can't be put again", cell.put(0), -1);
        Cells.load(cell, Cells.said(300));
        edges.due("300 bytes", cell.put(20), 2);
        edges.due("the TAPE is empty then", cell.tape(0), -1);
        edges.due("both begin", cell.go(21), 2);
        edges.due("300 bytes", cell.air(0, 2), 300);
        edges.due("the last one", cell.air(0, 10 + 299), Cells.said(300)[299] & 255);
        edges.due("one byte", cell.air(1, 2), 1);
    }

    private void putAhead() {
        WirelessCell cell = new WirelessCell();
        Cells.load(cell, Cells.said(20));
        int[] ahead = {MIN, -1};
        for (int slot : ahead) {
            edges.due("put(" + slot + ")", cell.put(slot), -1);
        }
        cell.go(10);
        edges.due("in slot 9, 10 is next", cell.put(9), -1);
        edges.due("in slot 0", cell.put(0), -1);
        edges.due("the TAPE stays", Cells.tape(cell), Cells.said(20));
        edges.due("in slot 10", cell.put(10), 1);
        Cells.load(cell, Cells.said(20));
        edges.due("in slot MAX", cell.put(MAX), 2);
        edges.due("one begins", cell.go(3000), 1);
        edges.due("in slot 10", cell.air(0, 0), 10);
    }

    private static byte[] all(int value, int bytes) {
        byte[] row = new byte[bytes];
        java.util.Arrays.fill(row, (byte) value);
        return row;
    }

    private void putTwenty() {
        WirelessCell cell = new WirelessCell();
        for (int n = 1; n <= 20; n++) {
            Cells.load(cell, all(n, n));
            edges.due("the " + n + "th", cell.put(n == 1 ? 0 : n == 2 ? 1 : 100), n);
        }
        Cells.load(cell, all(33, 33));
        edges.due("the 21st", cell.put(200), -1);
        edges.due("the TAPE stays", Cells.tape(cell), all(33, 33));
        cell.go(1);
        edges.due("one is on the air", cell.put(200), 20);
        Cells.load(cell, all(34, 34));
        edges.due("no room", cell.put(200), -1);
        cell.go(50);
        edges.due("two are behind", cell.put(200), 20);
        edges.due("the others of the first 20", cell.go(100), 18);
        for (int i = 0; i < 18; i++) {
            edges.due("each has bytes of its own", Cells.frame(cell, i), all(20 - i, 20 - i));
        }
        Cells.load(cell, all(35, 35));
        edges.due("two had not begun", cell.put(300), 3);
        edges.due("all begin", cell.go(250), 3);
        for (int i = 0; i < 3; i++) {
            edges.due("the latest have theirs, too", Cells.frame(cell, i), all(35 - i, 35 - i));
        }
    }
}
