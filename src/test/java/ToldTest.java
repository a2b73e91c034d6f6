/** Promises 8 to 15: secret, known, nonce, size, limit, draw, noise, put. */
public final class ToldTest {
    private static final Checks CHECKS = new Checks();

    private ToldTest() {
    }

    public static void main(String[] args) {
        wrongNodes();
        secretsMatter();
        noncesMatter();
        size();
        sizeWhenQueued();
        limit();
        draw();
        drawsInOrder();
        noise();
        noiseSpoils();
        put();
        putInOrder();
        CHECKS.finish();
    }

    private static void wrongNodes() {
        WirelessCell cell = new WirelessCell();
        int[] wrong = {Integer.MIN_VALUE, -1, 9, 10, Integer.MAX_VALUE};
        for (int k : wrong) {
            CHECKS.due("secret(" + k + ")", cell.secret(k, 1, 2, 3, 4), -1);
            CHECKS.due("known(" + k + ")", cell.known(k, 1, 2, 3, 4), -1);
            CHECKS.due("nonce(" + k + ")", cell.nonce(k, 1, 2, 3, 4), -1);
        }
        CHECKS.due("the AP has no SECRET of its own", cell.secret(0, 1, 2, 3, 4), -1);
        CHECKS.due("known(0)", cell.known(0, 1, 2, 3, 4), -1);
        for (int k = 0; k <= 8; k++) {
            CHECKS.due("nonce(" + k + ")", cell.nonce(k, 1, 2, 3, 4), 0);
            if (k > 0) {
                CHECKS.due("secret(" + k + ")", cell.secret(k, 1, 2, 3, 4), 0);
                CHECKS.due("known(" + k + ")", cell.known(k, 1, 2, 3, 4), 0);
            }
        }
    }

    /** The SECRET of both sides goes into the key, each of its bytes; else the station stays joined. */
    private static void secretsMatter() {
        long[] secret = {0x8102030405060708L, -2, 0x1112131415161718L, Long.MIN_VALUE};
        for (int other = -1; other < 4; other++) {
            WirelessCell cell = new WirelessCell();
            long[] known = secret.clone();
            if (other >= 0) {
                known[other] ^= 1L << (13 * other);
            }
            cell.secret(8, secret[0], secret[1], secret[2], secret[3]);
            cell.known(8, known[0], known[1], known[2], known[3]);
            cell.join(8);
            cell.go(400);
            CHECKS.due("station 8, long " + other + " altered", cell.node(8, 0), other < 0 ? 4 : 3);
            CHECKS.due("as the AP has it", cell.node(8, 1), other < 0 ? 4 : 3);
            if (other < 0) {
                byte[] tk = Reference.tk(Reference.ptk(Reference.longs(secret), 8, new byte[32], new byte[32]));
                CHECKS.due("the TK, NONCES all 0", Cells.key(cell, 8, 0), tk);
                CHECKS.due("the TK, NONCES all 0", Cells.key(cell, 8, 1), tk);
            }
        }
    }

    private static void noncesMatter() {
        WirelessCell cell = new WirelessCell();
        long[] ap = {0x0102030405060708L, 2, -3, 4};
        long[] station = {-5, 6, 0x7172737475767778L, 8};
        cell.nonce(0, ap[0], ap[1], ap[2], ap[3]);
        cell.nonce(3, station[0], station[1], station[2], station[3]);
        cell.join(3);
        cell.go(400);
        byte[] ptk = Reference.ptk(new byte[32], 3, Reference.longs(ap), Reference.longs(station));
        CHECKS.due("the TK by NONCES, SECRETS all 0", Cells.key(cell, 3, 0), Reference.tk(ptk));
        CHECKS.due("the TK by NONCES, SECRETS all 0", Cells.key(cell, 3, 1), Reference.tk(ptk));
    }

    private static void size() {
        WirelessCell cell = Cells.keyed(1);
        CHECKS.due("size(15)", cell.size(15), -1);
        CHECKS.due("size(256)", cell.size(256), -1);
        CHECKS.due("size(-1)", cell.size(-1), -1);
        CHECKS.due("size(16), 255 at first", cell.size(16), 255);
        int before = cell.count(1);
        Cells.say(cell, 1, 0, 200);
        cell.go(600);
        CHECKS.due("208 bytes in parts of 16, and ACKS", cell.count(1) - before, 26);
        CHECKS.due("a part's FRAME", cell.air(1, 2), 24 + 8 + 16 + 8 + 4);
        CHECKS.due("DELIVERED", Cells.delivered(cell, 0, 0), Cells.said(200));
        CHECKS.due("size(255)", cell.size(255), 16);
        before = cell.count(1);
        Cells.say(cell, 1, 0, 200);
        cell.go(100);
        CHECKS.due("208 bytes at once", cell.count(1) - before, 2);
        CHECKS.due("its FRAME", cell.air(1, 2), 24 + 8 + 208 + 8 + 4);
        CHECKS.due("size(100)", cell.size(100), 255);
        before = cell.count(1);
        Cells.say(cell, 1, 0, 192);
        cell.go(200);
        CHECKS.due("200 bytes in parts of 100", cell.count(1) - before, 4);
        Cells.say(cell, 1, 0, 193);
        cell.go(200);
        CHECKS.due("201 bytes in parts of 100", cell.count(1) - before, 10);
        CHECKS.due("the last part has one byte", cell.air(1, 2), 24 + 8 + 1 + 8 + 4);
    }

    private static void sizeWhenQueued() {
        WirelessCell cell = Cells.keyed(1);
        cell.size(20);
        Cells.say(cell, 1, 0, 32);
        cell.size(30);
        Cells.say(cell, 1, 0, 32);
        int before = cell.count(1);
        cell.go(300);
        CHECKS.due("40 bytes cut by 20, then by 30", cell.count(1) - before, 8);
        CHECKS.due("20", cell.air(7, 2), 44 + 20);
        CHECKS.due("20", cell.air(5, 2), 44 + 20);
        CHECKS.due("30", cell.air(3, 2), 44 + 30);
        CHECKS.due("10", cell.air(1, 2), 44 + 10);
    }

    private static void limit() {
        WirelessCell cell = new WirelessCell();
        CHECKS.due("limit(0)", cell.limit(0), -1);
        CHECKS.due("limit(16)", cell.limit(16), -1);
        CHECKS.due("limit(-1)", cell.limit(-1), -1);
        CHECKS.due("limit(15), 4 at first", cell.limit(15), 4);
        CHECKS.due("limit(1)", cell.limit(1), 15);
        int[] limits = {1, 2, 15};
        for (int limit : limits) {
            WirelessCell noisy = new WirelessCell();
            noisy.limit(limit);
            noisy.noise(0, 1999);
            noisy.join(1);
            CHECKS.due("tries by LIMIT " + limit, noisy.go(1900), limit);
            CHECKS.due("FAILED", noisy.count(7), limit);
            CHECKS.due("GIVEN UP", noisy.node(1, 2), 0);
            CHECKS.due("tries are 0", noisy.node(1, 5), 0);
            CHECKS.due("CW is 7", noisy.node(1, 4), 7);
        }
        WirelessCell lowered = new WirelessCell();
        lowered.noise(0, 1999);
        lowered.join(1);
        lowered.go(20);
        CHECKS.due("two tries", lowered.node(1, 5), 2);
        lowered.limit(2);
        lowered.go(20);
        CHECKS.due("3 is LIMIT or more", lowered.count(1), 3);
        CHECKS.due("GIVEN UP", lowered.node(1, 2), 0);
    }

    private static void draw() {
        WirelessCell cell = new WirelessCell();
        CHECKS.due("draw(-1)", cell.draw(-1), -1);
        CHECKS.due("draw(128)", cell.draw(128), -1);
        CHECKS.due("draw(0)", cell.draw(0), 1);
        CHECKS.due("draw(127)", cell.draw(127), 2);
        for (int n = 3; n <= 200; n++) {
            CHECKS.due("draw, the " + n + "th", cell.draw(n % 128), n);
        }
        CHECKS.due("draw, the 201st", cell.draw(1), -1);
        CHECKS.due("left", cell.count(3), 200);
        cell.join(1);
        CHECKS.due("one is taken", cell.count(3), 199);
        CHECKS.due("one more", cell.draw(5), 200);
        CHECKS.due("and no more", cell.draw(5), -1);
    }

    private static void drawsInOrder() {
        WirelessCell cell = new WirelessCell();
        cell.draw(5);
        cell.draw(8 + 3);
        cell.draw(127);
        int[] want = {5, 3, 7, 0, 0};
        for (int k = 1; k <= 5; k++) {
            cell.join(k);
            CHECKS.due("BACKOFF of station " + k, cell.node(k, 3), want[k - 1]);
        }
        CHECKS.due("none is left", cell.count(3), 0);
        cell.draw(6);
        cell.join(1);
        CHECKS.due("nothing is drawn where something is QUEUED", cell.count(3), 1);
    }

    private static void noise() {
        WirelessCell cell = new WirelessCell();
        cell.go(10);
        CHECKS.due("noise ahead of the next slot", cell.noise(9, 20), -1);
        CHECKS.due("noise that ends ahead of it", cell.noise(10, 9), -1);
        CHECKS.due("noise in one slot", cell.noise(10, 10), 1);
        CHECKS.due("noise in 2000", cell.noise(10, 2009), 2);
        CHECKS.due("noise in 2001", cell.noise(10, 2010), -1);
        CHECKS.due("noise from -1", cell.noise(-1, 10), -1);
        CHECKS.due("noise from MIN", cell.noise(Integer.MIN_VALUE, Integer.MAX_VALUE), -1);
        CHECKS.due("noise to MAX", cell.noise(10, Integer.MAX_VALUE), -1);
        CHECKS.due("noise at MAX", cell.noise(Integer.MAX_VALUE, Integer.MAX_VALUE), 3);
        CHECKS.due("noise near MAX", cell.noise(Integer.MAX_VALUE - 1999, Integer.MAX_VALUE), 4);
        for (int n = 5; n <= 30; n++) {
            CHECKS.due("noise, told " + n + " times", cell.noise(11, 11), n);
        }
        CHECKS.due("noise, told 31 times", cell.noise(11, 11), -1);
        cell.go(100);
        CHECKS.due("also later", cell.noise(200, 200), -1);
    }

    /** AUTH has slots 5 .. 8: noise in each of them spoils it, noise around it does not. */
    private static void noiseSpoils() {
        for (int slot = 4; slot <= 9; slot++) {
            WirelessCell cell = new WirelessCell();
            cell.go(4);
            cell.noise(slot, slot);
            cell.go(1);
            cell.join(1);
            cell.go(4);
            boolean spoils = slot >= 5 && slot <= 8;
            CHECKS.due("CLEAN with noise in " + slot, cell.air(0, 4), spoils ? 0 : 1);
            CHECKS.due("over and not CLEAN", cell.count(2), spoils ? 1 : 0);
            CHECKS.due("QUIET slots", cell.count(6), 5);
        }
    }

    private static void put() {
        WirelessCell cell = new WirelessCell();
        CHECKS.due("put nothing", cell.put(5), -1);
        cell.go(3);
        cell.feed(1, 2, 3, 4, 5);
        CHECKS.due("put ahead of the next slot", cell.put(2), -1);
        CHECKS.due("put(-1)", cell.put(-1), -1);
        CHECKS.due("the TAPE stays", cell.count(4), 20);
        CHECKS.due("put in the next slot", cell.put(3), 1);
        CHECKS.due("the TAPE is empty", cell.count(4), 0);
        for (int n = 2; n <= 20; n++) {
            Cells.load(cell, Reference.bytes(n));
            CHECKS.due("put, the " + n + "th", cell.put(n == 20 ? Integer.MAX_VALUE : 10), n);
        }
        cell.feed(1, 2, 3, 4, 5);
        CHECKS.due("put, the 21st", cell.put(10), -1);
        CHECKS.due("the TAPE stays", cell.count(4), 20);
        CHECKS.due("it begins", cell.go(1), 1);
        CHECKS.due("19 have not begun", cell.count(8), 19);
        CHECKS.due("put again, one is on the air", cell.put(10), 20);
        CHECKS.due("all but one begin", cell.go(7), 19);
        CHECKS.due("one has not begun", cell.count(8), 1);
        CHECKS.due("others send", cell.air(0, 1), 9);
        CHECKS.due("the last one put is the latest", cell.air(0, 2), 20);
    }

    private static void putInOrder() {
        WirelessCell cell = new WirelessCell();
        int[] slots = {30, 10, 20, 10, 30, 20};
        for (int i = 0; i < slots.length; i++) {
            Cells.load(cell, new byte[1 + i]);
            cell.put(slots[i]);
        }
        CHECKS.due("all begin", cell.go(31), 6);
        int[] want = {1, 3, 2, 5, 0, 4};
        for (int i = 0; i < want.length; i++) {
            CHECKS.due("in slot order, then as told", cell.air(5 - i, 2), 1 + want[i]);
            CHECKS.due("in their slots", cell.air(5 - i, 0), slots[want[i]]);
        }
        int now = cell.count(0);
        for (int i = 0; i < 20; i++) {
            Cells.load(cell, Reference.bytes(100 + i));
            CHECKS.due("put", cell.put(now + 20 - i), i + 1);
        }
        cell.go(25);
        for (int i = 0; i < 20; i++) {
            CHECKS.due("each has bytes of its own", cell.air(i, 10), 100 + i);
        }
    }
}
