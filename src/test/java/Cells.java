/** What tests do with a cell more than once. */
final class Cells {
    private Cells() {
    }

    static byte[] secret(int station) {
        return Reference.longs(11, 22, 33, station);
    }

    static byte[] nonce(int node) {
        return Reference.longs(-1L - node, 0x0102030405060708L, 7, node);
    }

    static void tell(WirelessCell cell, int station) {
        cell.secret(station, 11, 22, 33, station);
        cell.known(station, 11, 22, 33, station);
        cell.nonce(station, -1L - station, 0x0102030405060708L, 7, station);
    }

    /** A cell in which stations 1 .. stations are keyed, one after the other, and the medium is quiet. */
    static WirelessCell keyed(int stations) {
        WirelessCell cell = new WirelessCell();
        cell.nonce(0, -1L, 0x0102030405060708L, 7, 0);
        for (int k = 1; k <= stations; k++) {
            tell(cell, k);
            cell.join(k);
            cell.go(200);
        }
        return cell;
    }

    static byte[] ptk(int station) {
        return Reference.ptk(secret(station), station, nonce(0), nonce(station));
    }

    static byte[] tk(int station) {
        return Reference.tk(ptk(station));
    }

    /** Makes these bytes the TAPE. */
    static void load(WirelessCell cell, byte[] bytes) {
        cell.end(0);
        int rest = bytes.length % 20;
        for (int at = 0; at + 20 <= bytes.length; at += 20) {
            cell.feed(number(bytes, at), number(bytes, at + 4), number(bytes, at + 8), number(bytes, at + 12),
                    number(bytes, at + 16));
        }
        if (rest > 0) {
            byte[] last = java.util.Arrays.copyOfRange(bytes, bytes.length - rest, bytes.length - rest + 20);
            cell.feed(number(last, 0), number(last, 4), number(last, 8), number(last, 12), number(last, 16));
            cell.end(bytes.length);
        }
    }

    private static int number(byte[] b, int at) {
        return (b[at] & 255) << 24 | (b[at + 1] & 255) << 16 | (b[at + 2] & 255) << 8 | (b[at + 3] & 255);
    }

    static byte[] tape(WirelessCell cell) {
        byte[] row = new byte[cell.count(4)];
        for (int i = 0; i < row.length; i++) {
            row[i] = (byte) cell.tape(i);
        }
        return row;
    }

    static byte[] frame(WirelessCell cell, int i) {
        byte[] row = new byte[Math.max(0, cell.air(i, 2))];
        for (int k = 0; k < row.length; k++) {
            row[k] = (byte) cell.air(i, 10 + k);
        }
        return row;
    }

    static byte[] delivered(WirelessCell cell, int node, int i) {
        byte[] row = new byte[Math.max(0, cell.delivered(node, i, 1))];
        for (int k = 0; k < row.length; k++) {
            row[k] = (byte) cell.delivered(node, i, 10 + k);
        }
        return row;
    }

    static byte[] key(WirelessCell cell, int station, int side) {
        byte[] row = new byte[16];
        for (int i = 0; i < 16; i++) {
            row[i] = (byte) cell.key(station, side, i);
        }
        return row;
    }

    /** Puts these bytes on the air in the next slot, and lets slots go. */
    static int putNow(WirelessCell cell, byte[] frame, int slots) {
        load(cell, frame);
        cell.put(cell.count(0));
        return cell.go(slots);
    }

    static byte[] said(int length) {
        byte[] row = new byte[length];
        for (int i = 0; i < length; i++) {
            row[i] = (byte) (3 * i + 200);
        }
        return row;
    }

    static int say(WirelessCell cell, int from, int to, int length) {
        load(cell, said(length));
        return cell.submit(from, to);
    }
}
