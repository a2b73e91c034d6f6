import java.util.Arrays;
import java.util.Random;

/** Random runs of calls, on the class and on the Model: all promises, each answer the same. */
public final class ModelTest {
    private static final int RUNS = 300;
    private static final int ACTIONS = 150;

    private final Checks checks;
    private final Random random;
    private final String run;
    private final WirelessCell cell = new WirelessCell();
    private final Model model = new Model();

    private ModelTest(Checks checks, long seed) {
        this.checks = checks;
        this.random = new Random(seed);
        this.run = "run " + seed;
    }

    public static void main(String[] args) {
        Checks checks = new Checks();
        int[] reached = new int[8];
        int first = args.length > 0 ? Integer.parseInt(args[0]) : 0;
        int runs = args.length > 1 ? Integer.parseInt(args[1]) : RUNS;
        for (int seed = first; seed < first + runs && checks.wrongSoFar() < 20; seed++) {
            ModelTest test = new ModelTest(checks, seed);
            test.runAll();
            test.addReached(reached);
        }
        System.out.println("delivered " + reached[0] + ", sent again " + reached[1] + ", seals dropped " + reached[2]
                + ", ENDS 0 to 5 but 4: " + reached[3] + " " + reached[4] + " " + reached[5] + " " + reached[6] + " "
                + reached[7]);
        if (runs >= RUNS) {
            for (int i = 0; i < reached.length; i++) {
                checks.holds("the runs reach what they are to reach, " + i, reached[i] > 20);
            }
        }
        checks.finish();
    }

    private void addReached(int[] reached) {
        for (int k = 0; k < 9; k++) {
            reached[0] += cell.node(k, 8);
            reached[1] += cell.node(k, 9);
            reached[2] += cell.node(k, 10);
        }
        for (int i = 0; i < cell.count(5); i++) {
            int end = cell.ended(i);
            if (end != 4) {
                reached[end == 5 ? 7 : 3 + end]++;
            }
        }
    }

    private void same(String call, int got, int want) {
        checks.due(run + ": " + call, got, want);
    }

    private void runAll() {
        int stations = 1 + random.nextInt(4);
        tellAll(stations);
        for (int i = 0; i < ACTIONS && checks.wrongSoFar() == 0; i++) {
            act(stations);
            compareState();
        }
        compareAll();
    }

    private void tellAll(int stations) {
        for (int k = 1; k <= stations; k++) {
            long a = random.nextLong();
            long other = random.nextInt(12) == 0 ? 1 : 0;
            same("secret", cell.secret(k, a, 2, 3, k), model.secret(k, a, 2, 3, k));
            same("known", cell.known(k, a + other, 2, 3, k), model.known(k, a + other, 2, 3, k));
            same("nonce", cell.nonce(k, ~a, a, 6, k), model.nonce(k, ~a, a, 6, k));
        }
        same("nonce", cell.nonce(0, 5, -6, 7, 8), model.nonce(0, 5, -6, 7, 8));
        if (random.nextInt(3) == 0) {
            drawSome(60);
        }
        if (random.nextInt(6) > 0) {
            for (int k = 1; k <= stations; k++) {
                same("join", cell.join(k), model.join(k));
                goOn(160);
            }
        }
    }

    private void drawSome(int most) {
        int n = random.nextInt(most);
        for (int i = 0; i < n; i++) {
            int v = random.nextInt(130) - 1;
            same("draw", cell.draw(v), model.draw(v));
        }
    }

    private void goOn(int slots) {
        same("go(" + slots + ")", cell.go(slots), model.go(slots));
    }

    private void act(int stations) {
        int station = 1 + random.nextInt(stations);
        switch (random.nextInt(24)) {
            case 0: same("join", cell.join(station), model.join(station)); break;
            case 1: if (random.nextInt(4) == 0) { leave(station); } break;
            case 2: drawSome(6); break;
            case 3: case 4: case 5: case 6: submit(stations); break;
            case 7: resize(); break;
            case 8: noise(); break;
            case 9: case 10: replay(); break;
            case 11: case 12: forgeAck(station); break;
            case 13: forgePlain(station); break;
            case 14: case 15: forgeSealed(station); break;
            case 16: changeSecret(station); break;
            case 17: wrongCalls(); break;
            case 18: fillQueue(station); break;
            case 19: junk(); break;
            case 20: replayInFull(); break;
            default: goOn(random.nextInt(4) == 0 ? 200 : random.nextInt(30)); break;
        }
    }

    private void leave(int station) {
        int reason = random.nextInt(258) - 1;
        same("leave", cell.leave(station, reason), model.leave(station, reason));
    }

    private void load(byte[] bytes) {
        same("end", cell.end(0), model.end(0));
        for (int at = 0; at < bytes.length; at += 20) {
            int[] v = new int[5];
            for (int i = 0; i < 20 && at + i < bytes.length; i++) {
                v[i / 4] |= (bytes[at + i] & 255) << (24 - 8 * (i % 4));
            }
            same("feed", cell.feed(v[0], v[1], v[2], v[3], v[4]), model.feed(v[0], v[1], v[2], v[3], v[4]));
        }
        same("end", cell.end(bytes.length), model.end(bytes.length));
    }

    private byte[] someBytes(int most) {
        byte[] row = new byte[random.nextInt(most + 1)];
        random.nextBytes(row);
        return row;
    }

    private void submit(int stations) {
        load(someBytes(random.nextInt(10) == 0 ? 210 : random.nextInt(3) == 0 ? 200 : 40));
        int from = random.nextInt(stations + 1);
        int to = random.nextInt(stations + 1);
        same("submit", cell.submit(from, to), model.submit(from, to));
    }

    private void fillQueue(int station) {
        int from = random.nextInt(2) == 0 ? 0 : station;
        int to = from == 0 ? station : 0;
        for (int i = random.nextInt(14); i > 0; i--) {
            same("submit", cell.submit(from, to), model.submit(from, to));
        }
    }

    private void resize() {
        int size = random.nextInt(3) == 0 ? 255 : 14 + random.nextInt(100);
        int limit = random.nextInt(17);
        if (random.nextBoolean()) {
            same("size", cell.size(size), model.size(size));
        } else {
            same("limit", cell.limit(limit), model.limit(limit));
        }
    }

    private void noise() {
        int from = model.slot() - 1 + random.nextInt(20);
        int to = from + random.nextInt(8) - 1;
        same("noise", cell.noise(from, to), model.noise(from, to));
    }

    private void put(int within) {
        int slot = model.slot() + random.nextInt(within);
        same("put", cell.put(slot), model.put(slot));
    }

    private void replay() {
        int i = random.nextInt(42);
        int length = model.copy(i);
        same("copy", cell.copy(i), length);
        if (random.nextInt(3) > 0 && length > 4) {
            same("end", cell.end(length - 4), model.end(length - 4));
            int[] where = {0, 1, 1, 1, 9, 15, 21, 22, 22, 23, 24, 26, 27, random.nextInt(length)};
            int at = where[random.nextInt(where.length)];
            int mask = 1 << random.nextInt(8);
            same("alter", cell.alter(at, mask), model.alter(at, mask));
            same("check", cell.check(), model.check());
        }
        put(random.nextBoolean() ? 1 : 30);
        if (random.nextBoolean()) {
            goOn(10 + random.nextInt(20));
        }
    }

    /** Replays the latest FRAMES in order, so that keys are agreed on anew and parts come again. */
    private void replayInFull() {
        int n = Math.min(18, model.count(1));
        goOn(40);
        for (int i = n; i > 0; i--) {
            int which = i - 1 + Math.max(0, model.count(1) - cell.count(1));
            same("copy", cell.copy(which), model.copy(which));
            int length = model.count(4);
            if (length > 14 && random.nextInt(3) == 0) {
                same("end", cell.end(length - 4), model.end(length - 4));
                same("alter", cell.alter(22, 16), model.alter(22, 16));
                same("check", cell.check(), model.check());
            }
            int slot = model.slot() + (n - i) * 40;
            same("put", cell.put(slot), model.put(slot));
        }
        goOn(40 * n);
    }

    private void forgeAck(int station) {
        int k = random.nextInt(3) == 0 ? 0 : station;
        load(Reference.withFcs(Reference.join(Reference.bytes(212, random.nextInt(20) == 0 ? 8 : 0, 0, 0),
                Reference.address(k))));
        put(12);
        goOn(random.nextInt(12));
    }

    private void forgePlain(int station) {
        int[] kinds = {176, 0, 16, 192, 8, 8, 8};
        int[] flags = {0, 0, 8, 1, 2, 3, 5, 9, 10, 16, 65, 66};
        byte[][] bodies = {Reference.bytes(0, 0, 1, 0, 0, 0), Reference.bytes(0, 0, 2, 0, 0, 0),
            Reference.bytes(1, 0, 10, 0), Reference.bytes(1, 0, 0, 0, station, 192), Reference.bytes(7, 0),
            someBytes(20), Reference.join(Reference.bytes(170, 170, 3, 0, 0, 0, 136, 142, 1), new byte[32])};
        boolean up = random.nextBoolean();
        int kind = kinds[random.nextInt(kinds.length)];
        int flag = kind == 8 || random.nextInt(6) == 0 ? flags[random.nextInt(flags.length)] : random.nextInt(2) * 8;
        byte[] header = Reference.header(kind, flag, up ? 0 : station, up ? station : random.nextInt(10), 0,
                random.nextInt(64));
        load(Reference.withFcs(Reference.join(header, bodies[random.nextInt(bodies.length)])));
        put(5);
        goOn(random.nextInt(40));
    }

    private void forgeSealed(int station) {
        int side = random.nextInt(2);
        byte[] key = model.keyOf(station, side);
        if (key == null) {
            return;
        }
        long pn = model.takenBy(station, side) + random.nextInt(4);
        int parts = random.nextInt(3) == 0 ? 1 + random.nextInt(16) : 1;
        int sequence = random.nextInt(4096);
        goOn(60);
        for (int n = 0; n < parts; n++) {
            int flags = 64 | (side == 0 ? 2 : 1) | (n + 1 < parts ? 4 : 0) | (random.nextInt(20) == 0 ? 8 : 0);
            int number = random.nextInt(12) == 0 ? n + 1 : n;
            byte[] header = Reference.header(8, flags, side == 0 ? station : 0, side == 0 ? 0 : station,
                    random.nextInt(11), (number & 15) + 16 * sequence);
            byte[] text = someBytes(random.nextInt(4) == 0 ? 256 : 24);
            byte[] head = Reference.bytes(170, 170, 3, 0, 0, 0, 8, random.nextInt(8) == 0 ? 1 : 0);
            byte[] part = n == 0 && random.nextInt(6) > 0 ? Reference.join(head, text) : text;
            part = Arrays.copyOf(part, Math.min(part.length, 256));
            load(Reference.sealedFrame(header, pn, key, part));
            pn += 1 + random.nextInt(2) * random.nextInt(2) * 70000L;
            put(1);
            goOn(20 + random.nextInt(10));
        }
    }

    private void changeSecret(int station) {
        if (random.nextInt(4) == 0) {
            long a = random.nextLong();
            same("nonce", cell.nonce(station, a, 1, 2, 3), model.nonce(station, a, 1, 2, 3));
        } else if (random.nextInt(4) == 0) {
            long a = random.nextLong();
            same("nonce", cell.nonce(0, 4, 3, 2, a), model.nonce(0, 4, 3, 2, a));
        }
    }

    /** Short and broken frames, so that the medium is busy and nothing is taken. */
    private void junk() {
        load(someBytes(random.nextBoolean() ? 300 : 40));
        put(20);
    }

    private int edge() {
        int[] edges = {Integer.MIN_VALUE, -1, 0, 1, 8, 9, 10, 11, 12, 15, 16, 39, 40, 127, 128, 200, 255, 256, 300,
            2000, Integer.MAX_VALUE};
        return edges[random.nextInt(edges.length)];
    }

    private void wrongCalls() {
        int a = edge();
        int b = edge();
        int c = edge();
        same("end", cell.end(a), model.end(a));
        same("alter", cell.alter(a, b), model.alter(a, b));
        same("copy", cell.copy(a), model.copy(a));
        same("tape", cell.tape(a), model.tape(a));
        same("node", cell.node(a, b), model.node(a, b));
        same("key", cell.key(a, b, c), model.key(a, b, c));
        same("delivered", cell.delivered(a, b, c), model.delivered(a, b, c));
        same("air", cell.air(a, b), model.air(a, b));
        same("count", cell.count(a), model.count(a));
        same("ended", cell.ended(a), model.ended(a));
        same("check", cell.check(), model.check());
        if (a < 0 || a > 3000) {
            same("go", cell.go(a), model.go(a));
        }
        if (a < 1 || a > 8) {
            same("join", cell.join(a), model.join(a));
            same("secret", cell.secret(a, 1, 2, 3, 4), model.secret(a, 1, 2, 3, 4));
            same("known", cell.known(a, 1, 2, 3, 4), model.known(a, 1, 2, 3, 4));
        }
        if (a < 0) {
            same("draw", cell.draw(a), model.draw(a));
            same("nonce", cell.nonce(a, 1, 2, 3, 4), model.nonce(a, 1, 2, 3, 4));
            same("put", cell.put(a), model.put(a));
            same("noise", cell.noise(a, b), model.noise(a, b));
            same("submit", cell.submit(a, b), model.submit(a, b));
            same("submit", cell.submit(b, a), model.submit(b, a));
        }
    }

    private void compareState() {
        for (int k = 0; k < 9; k++) {
            for (int what = -1; what < 12; what++) {
                same("node(" + k + ", " + what + ")", cell.node(k, what), model.node(k, what));
            }
            for (int i = 0; i < 2; i++) {
                int byteAt = random.nextInt(18) - 1;
                same("key(" + k + ", " + i + ", " + byteAt + ")", cell.key(k, i, byteAt), model.key(k, i, byteAt));
            }
        }
        for (int what = -1; what < 10; what++) {
            same("count(" + what + ")", cell.count(what), model.count(what));
        }
        for (int i = 0; i < 3; i++) {
            compareFrame(random.nextInt(41));
        }
    }

    private void compareFrame(int i) {
        for (int what = -1; what < 10 + 300; what++) {
            same("air(" + i + ", " + what + ")", cell.air(i, what), model.air(i, what));
        }
    }

    private void compareAll() {
        for (int i = 0; i < 42; i++) {
            compareFrame(i);
        }
        for (int k = 0; k < 9; k++) {
            for (int i = -1; i < 14; i++) {
                for (int what = -1; what < 212; what++) {
                    same("delivered(" + k + ", " + i + ", " + what + ")", cell.delivered(k, i, what),
                            model.delivered(k, i, what));
                }
            }
        }
        for (int i = 0; i <= model.count(5); i++) {
            same("ended(" + i + ")", cell.ended(i), model.ended(i));
        }
        for (int i = -1; i < 301; i++) {
            same("tape(" + i + ")", cell.tape(i), model.tape(i));
        }
    }
}
