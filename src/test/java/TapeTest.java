/** Promises 1 to 7: a new object, feed, end, alter, check, copy, tape. */
public final class TapeTest {
    private static final Checks CHECKS = new Checks();

    private TapeTest() {
    }

    public static void main(String[] args) {
        newObject();
        feed();
        end();
        alter();
        check();
        copy();
        copyKeepsForty();
        tape();
        CHECKS.finish();
    }

    private static void newObject() {
        WirelessCell cell = new WirelessCell();
        CHECKS.due("NONE", WirelessCell.NONE, -1);
        for (int what = 0; what <= 8; what++) {
            CHECKS.due("new: count(" + what + ")", cell.count(what), 0);
        }
        for (int k = 0; k <= 8; k++) {
            for (int what = 0; what <= 10; what++) {
                int want = what == 4 ? 7 : what < 2 && k > 0 ? 1 : 0;
                CHECKS.due("new: node(" + k + ", " + what + ")", cell.node(k, what), want);
            }
            CHECKS.due("new: delivered", cell.delivered(k, 0, 0), -1);
            CHECKS.due("new: key", cell.key(k, 0, 0), -1);
            CHECKS.due("new: key", cell.key(k, 1, 0), -1);
        }
        CHECKS.due("new: tape(0)", cell.tape(0), -1);
        CHECKS.due("new: copy(0)", cell.copy(0), -1);
        CHECKS.due("new: air(0, 0)", cell.air(0, 0), -1);
        CHECKS.due("new: ended(0)", cell.ended(0), -1);
        CHECKS.due("new: go(100), nobody sends", cell.go(100), 0);
    }

    private static void feed() {
        WirelessCell cell = new WirelessCell();
        CHECKS.due("feed", cell.feed(0x01020304, -1, 0x80000000, 0, 0x7F0000FE), 20);
        int[] want = {1, 2, 3, 4, 255, 255, 255, 255, 128, 0, 0, 0, 0, 0, 0, 0, 127, 0, 0, 254};
        for (int i = 0; i < 20; i++) {
            CHECKS.due("fed byte " + i, cell.tape(i), want[i]);
        }
        for (int n = 40; n <= 300; n += 20) {
            CHECKS.due("feed to " + n, cell.feed(n, n, n, n, n), n);
        }
        CHECKS.due("feed beyond 300", cell.feed(9, 9, 9, 9, 9), -1);
        CHECKS.due("the TAPE stays", cell.count(4), 300);
        CHECKS.due("byte 0 stays", cell.tape(0), 1);
        CHECKS.due("the last byte", cell.tape(299), 300 & 255);
        cell.end(281);
        CHECKS.due("feed to 301", cell.feed(9, 9, 9, 9, 9), -1);
        CHECKS.due("the TAPE stays", cell.count(4), 281);
        cell.end(280);
        CHECKS.due("feed to 300 again", cell.feed(9, 9, 9, 9, 9), 300);
        cell.end(7);
        CHECKS.due("feed behind 7 bytes", cell.feed(0x0A000000, 0, 0, 0, 11), 27);
        CHECKS.due("byte 7", cell.tape(7), 10);
        CHECKS.due("byte 26", cell.tape(26), 11);
    }

    private static void end() {
        WirelessCell cell = new WirelessCell();
        CHECKS.due("end(0) of nothing", cell.end(0), 0);
        CHECKS.due("end(1) of nothing", cell.end(1), -1);
        cell.feed(1, 2, 3, 4, 5);
        CHECKS.due("end(21)", cell.end(21), -1);
        CHECKS.due("end(-1)", cell.end(-1), -1);
        CHECKS.due("end(MIN)", cell.end(Integer.MIN_VALUE), -1);
        CHECKS.due("end(MAX)", cell.end(Integer.MAX_VALUE), -1);
        CHECKS.due("all stay", cell.count(4), 20);
        CHECKS.due("end(20)", cell.end(20), 20);
        CHECKS.due("end(4)", cell.end(4), 4);
        CHECKS.due("four are left", cell.count(4), 4);
        CHECKS.due("the fourth", cell.tape(3), 1);
        CHECKS.due("the fifth", cell.tape(4), -1);
        CHECKS.due("end(5) of 4", cell.end(5), -1);
    }

    private static void alter() {
        WirelessCell cell = new WirelessCell();
        CHECKS.due("alter nothing", cell.alter(0, 1), -1);
        cell.feed(0x0F000000, 0, 0, 0, 1);
        CHECKS.due("alter(0, 255)", cell.alter(0, 255), 0xF0);
        CHECKS.due("bits that are set go", cell.alter(0, 0x81), 0x71);
        CHECKS.due("it stays so", cell.tape(0), 0x71);
        CHECKS.due("alter(19, 1)", cell.alter(19, 1), 0);
        CHECKS.due("mask 0", cell.alter(0, 0), -1);
        CHECKS.due("mask 256", cell.alter(0, 256), -1);
        CHECKS.due("mask -1", cell.alter(0, -1), -1);
        CHECKS.due("byte 20 of 20", cell.alter(20, 1), -1);
        CHECKS.due("byte -1", cell.alter(-1, 1), -1);
        CHECKS.due("byte 0 stays", cell.tape(0), 0x71);
    }

    private static void check() {
        WirelessCell cell = new WirelessCell();
        CHECKS.due("check of nothing", cell.check(), 4);
        for (int i = 0; i < 4; i++) {
            CHECKS.due("the sum of nothing", cell.tape(i), 0);
        }
        Cells.load(cell, Reference.bytes('1', '2', '3', '4', '5', '6', '7', '8', '9'));
        CHECKS.due("check of 123456789", cell.check(), 13);
        CHECKS.due("its sum, the lowest byte first", cell.tape(9), 0x26);
        CHECKS.due("its sum", cell.tape(10), 0x39);
        CHECKS.due("its sum", cell.tape(11), 0xF4);
        CHECKS.due("its sum", cell.tape(12), 0xCB);
        byte[] long297 = Cells.said(297);
        Cells.load(cell, long297);
        CHECKS.due("check of 297", cell.check(), -1);
        CHECKS.due("the TAPE stays", Cells.tape(cell), long297);
        cell.end(296);
        CHECKS.due("check of 296", cell.check(), 300);
        CHECKS.due("all bytes", Cells.tape(cell), Reference.withFcs(Cells.said(296)));
        CHECKS.due("check of 300", cell.check(), -1);
    }

    private static void copy() {
        WirelessCell cell = new WirelessCell();
        cell.feed(1, 2, 3, 4, 5);
        CHECKS.due("copy before any", cell.copy(0), -1);
        CHECKS.due("the TAPE stays", cell.count(4), 20);
        cell.put(0);
        Cells.load(cell, Cells.said(300));
        cell.put(1);
        cell.go(1);
        CHECKS.due("copy of one on the air", cell.copy(0), 20);
        CHECKS.due("its byte", cell.tape(19), 5);
        cell.go(1);
        CHECKS.due("copy of the latest", cell.copy(0), 300);
        CHECKS.due("its bytes", Cells.tape(cell), Cells.said(300));
        CHECKS.due("copy of the one ahead", cell.copy(1), 20);
        CHECKS.due("copy(2)", cell.copy(2), -1);
        CHECKS.due("copy(-1)", cell.copy(-1), -1);
        CHECKS.due("the TAPE stays", cell.count(4), 20);
        CHECKS.due("copies are the TAPE's own", cell.alter(0, 1), 1);
        CHECKS.due("not the FRAME's", cell.air(1, 10), 0);
    }

    private static void copyKeepsForty() {
        WirelessCell cell = new WirelessCell();
        for (int i = 0; i < 45; i++) {
            byte[] frame = new byte[1 + i];
            frame[0] = (byte) i;
            Cells.putNow(cell, frame, 15);
            int oldest = Math.max(0, i - 39);
            CHECKS.due("copy of the oldest one kept", cell.copy(i - oldest), 1 + oldest);
            CHECKS.due("its first byte", cell.tape(0), oldest);
            CHECKS.due("copy of one that is not kept", cell.copy(i - oldest + 1), -1);
            CHECKS.due("its bytes", cell.air(i - oldest + 1, 2), -1);
        }
        CHECKS.due("began", cell.count(1), 45);
    }

    private static void tape() {
        WirelessCell cell = new WirelessCell();
        cell.feed(-1, 0, 0, 0, 200);
        CHECKS.due("tape(0)", cell.tape(0), 255);
        CHECKS.due("tape(19)", cell.tape(19), 200);
        CHECKS.due("tape(20)", cell.tape(20), -1);
        CHECKS.due("tape(-1)", cell.tape(-1), -1);
        CHECKS.due("tape(MAX)", cell.tape(Integer.MAX_VALUE), -1);
        CHECKS.due("tape(MIN)", cell.tape(Integer.MIN_VALUE), -1);
        cell.end(0);
        CHECKS.due("tape(0) of nothing", cell.tape(0), -1);
    }
}
