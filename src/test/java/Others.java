import java.util.Arrays;

/**
 * Somebody else who puts FRAMES on the air of a cell, and can bring a side of station 1 into any STATE by them. Each
 * FRAME that isn't sealed has a sequence number of its own, so that none is dropped as sent again.
 */
final class Others {
    static final int AUTH = 176;
    static final int ASK = 0;
    static final int GRANT = 16;
    static final int END = 192;
    static final int DATA = 8;

    static final byte[] AUTH_1 = Reference.bytes(0, 0, 1, 0, 0, 0);
    static final byte[] AUTH_2 = Reference.bytes(0, 0, 2, 0, 0, 0);
    static final byte[] ASKS = Reference.bytes(1, 0, 10, 0);
    static final byte[] GRANTS = Reference.bytes(1, 0, 0, 0, 1, 192);
    static final byte[] ENDS = Reference.bytes(3, 0);
    static final byte[] HEAD_OF_SAID = Reference.bytes(170, 170, 3, 0, 0, 0, 8, 0);
    private static final byte[] HEAD_OF_HAND = Reference.bytes(170, 170, 3, 0, 0, 0, 136, 142);

    final WirelessCell cell;
    private int sequence = 2000;
    /** Of what is sealed: all parts have the same one, until a test takes another. */
    int sealedSequence = 1000;
    long pn = 1;

    Others(WirelessCell cell) {
        this.cell = cell;
    }

    // ---- FRAMES

    static int slots(int bytes) {
        return 2 + (bytes + 31) / 32;
    }

    /** A FRAME with the next sequence number, part 0, and A3 the AP's. */
    byte[] frame(int kind, int flags, int to, int from, byte[] body) {
        return part(kind, flags, to, from, 0, body);
    }

    byte[] part(int kind, int flags, int to, int from, int part, byte[] body) {
        sequence++;
        return Reference.withFcs(Reference.join(Reference.header(kind, flags, to, from, 0, part + 16 * sequence), body));
    }

    /** The same FRAME with a byte altered, and its FCS anew. */
    static byte[] altered(byte[] frame, int at, int mask) {
        byte[] row = Arrays.copyOf(frame, frame.length - 4);
        row[at] ^= (byte) mask;
        return Reference.withFcs(row);
    }

    static byte[] ack(int to) {
        return Reference.withFcs(Reference.join(Reference.bytes(212, 0, 0, 0), Reference.address(to)));
    }

    static byte[] said(int bytes) {
        return Reference.join(HEAD_OF_SAID, Cells.said(bytes));
    }

    static byte[] hand(int number, byte[] nonce, byte[] ptk) {
        byte[] hand = Reference.join(Reference.bytes(number), nonce);
        return ptk == null ? Reference.join(HEAD_OF_HAND, hand)
                : Reference.join(HEAD_OF_HAND, hand, Reference.mic(ptk, hand));
    }

    /** HANDS by station 1's SECRET, its NONCE and the AP's, as Cells tells them. */
    static byte[] rightHand(int number) {
        byte[] nonce = number == 2 ? Cells.nonce(1) : number == 4 ? new byte[0] : Cells.nonce(0);
        return hand(number, nonce, number == 1 ? null : Cells.ptk(1));
    }

    // ---- on the air

    /** Puts a FRAME into the next slot, and lets just its slots go. */
    void put(byte[] frame) {
        Cells.putNow(cell, frame, slots(frame.length));
    }

    /** Puts a FRAME into the next slot; whether an ACK begins in the slot after next. */
    int acks(byte[] frame) {
        int began = Cells.putNow(cell, frame, slots(frame.length) + 2) - 1;
        cell.go(3);
        return began == 1 && cell.air(0, 2) == 14 ? 1 : 0;
    }

    /** Puts sealed DATA of station 1 for the AP, by the TK that Cells tells, with the next PN. */
    void seal(int flags, int part, int third, byte[] text) {
        sealBy(flags, part, third, pn, text);
        pn++;
    }

    void sealBy(int flags, int part, int third, long number, byte[] text) {
        boolean toAp = (flags & 1) != 0;
        byte[] header = Reference.header(DATA, flags, toAp ? 0 : 1, toAp ? 1 : 0, third, part + 16 * sealedSequence);
        put(Reference.sealedFrame(header, number, Cells.tk(1), text));
        cell.go(6);
    }

    /** All that is QUEUED is GIVEN UP in noise, so that nobody hears it. */
    void lose() {
        int limit = cell.limit(1);
        cell.noise(cell.count(0), cell.count(0) + 79);
        cell.go(80);
        cell.limit(limit);
    }

    // ---- STATES

    private static Others told() {
        WirelessCell cell = new WirelessCell();
        Cells.tell(cell, 1);
        cell.nonce(0, -1L, 0x0102030405060708L, 7, 0);
        return new Others(cell);
    }

    /** Station 1 has a STATE as the AP has it; it has none of its own. */
    static Others atAp(int state) {
        Others others = told();
        if (state >= 2) {
            others.putAndLose(others.frame(AUTH, 0, 0, 1, AUTH_1));
        }
        if (state >= 3) {
            others.putAndLose(others.frame(ASK, 0, 0, 1, ASKS));
        }
        if (state >= 4) {
            others.putAndLose(others.frame(DATA, 1, 0, 1, rightHand(2)));
            others.putAndLose(others.frame(DATA, 1, 0, 1, rightHand(4)));
        }
        return others;
    }

    /** Station 1, which has asked to join, has a STATE by itself; the AP knows nothing of it. */
    static Others atStation(int state) {
        Others others = told();
        others.cell.join(1);
        others.lose();
        if (state >= 2) {
            others.putAndLose(others.frame(AUTH, 0, 1, 0, AUTH_2));
        }
        if (state >= 3) {
            others.putAndLose(others.frame(GRANT, 0, 1, 0, GRANTS));
        }
        if (state >= 4) {
            others.putAndLose(others.frame(DATA, 2, 1, 0, rightHand(1)));
            others.putAndLose(others.frame(DATA, 2, 1, 0, rightHand(3)));
        }
        return others;
    }

    void putAndLose(byte[] frame) {
        put(frame);
        lose();
    }

    int stateAtAp() {
        return cell.node(1, 1);
    }

    int stateAtStation() {
        return cell.node(1, 0);
    }
}
