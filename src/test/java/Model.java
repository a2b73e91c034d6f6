import java.util.ArrayDeque;
import java.util.ArrayList;
import java.util.Arrays;
import java.util.HashMap;
import java.util.List;
import java.util.Map;

/**
 * The document once more, as plainly as it can be written: lists of everything, nothing left out for speed, and the
 * Java library's sums. ModelTest has the class answer as this does.
 */
final class Model {
    static final class Frame {
        byte[] bytes;
        int sender;
        int first;
        int last;
        boolean clean = true;
        boolean over;

        boolean isAck() {
            return (bytes[0] & 255) == 212;
        }
    }

    static final class Item {
        int kind;
        int receiver;
        int third;
        boolean sealed;
        int submission = -1;
        int sequence;
        List<byte[]> parts = new ArrayList<>();
    }

    static final class Side {
        int state = 1;
        byte[] secret = new byte[32];
        byte[] key;
        byte[] tried;
        byte[] triedNonce;
        long pnTaken;
        long pnNext;
        byte[] begun;
        int begunSequence;
        int begunNext;

        void unkey(int newState) {
            state = newState;
            key = null;
            tried = null;
            begun = null;
        }

        void rekey() {
            state = 4;
            key = Reference.tk(tried);
            pnTaken = 0;
            pnNext = 1;
            begun = null;
        }
    }

    static final class Node {
        byte[] nonce = new byte[32];
        List<Item> queue = new ArrayList<>();
        List<byte[]> delivered = new ArrayList<>();
        List<Integer> deliveredFrom = new ArrayList<>();
        Map<Integer, Integer> latest = new HashMap<>();
        Frame sending;
        byte[] atHand;
        int part;
        int backoff;
        int cw = 7;
        int tries;
        boolean waits;
        int waited;
        boolean endedNow;
        int nextSequence;
        int again;
        int dropped;
        boolean asked;
        int dueSlot = -1;
        byte[] dueAck;
    }

    static final class Put {
        byte[] bytes;
        int slot;
    }

    private byte[] tape = new byte[0];
    private final Node[] nodes = new Node[9];
    private final Side[] own = new Side[9];
    private final Side[] atAp = new Side[9];
    private final List<Frame> log = new ArrayList<>();
    private final List<Frame> onAir = new ArrayList<>();
    private final List<Boolean> busy = new ArrayList<>();
    private final List<int[]> noises = new ArrayList<>();
    private final List<Put> puts = new ArrayList<>();
    private final ArrayDeque<Integer> draws = new ArrayDeque<>();
    private final List<Integer> ends = new ArrayList<>();
    private int size = 255;
    private int limit = 4;
    private int failed;

    Model() {
        for (int k = 0; k < 9; k++) {
            nodes[k] = new Node();
            own[k] = new Side();
            atAp[k] = new Side();
        }
    }

    int slot() {
        return busy.size();
    }

    int feed(int a, int b, int c, int d, int e) {
        if (tape.length > 280) {
            return -1;
        }
        for (int v : new int[] {a, b, c, d, e}) {
            tape = Reference.join(tape, Reference.bytes(v >>> 24, v >>> 16, v >>> 8, v));
        }
        return tape.length;
    }

    int end(int n) {
        if (n < 0 || n > tape.length) {
            return -1;
        }
        tape = Arrays.copyOf(tape, n);
        return n;
    }

    int alter(int i, int mask) {
        if (i < 0 || i >= tape.length || mask < 1 || mask > 255) {
            return -1;
        }
        tape = tape.clone();
        tape[i] ^= (byte) mask;
        return tape[i] & 255;
    }

    int check() {
        if (tape.length > 296) {
            return -1;
        }
        tape = Reference.withFcs(tape);
        return tape.length;
    }

    private Frame latest(int i) {
        return i >= 0 && i < 40 && i < log.size() ? log.get(log.size() - 1 - i) : null;
    }

    int copy(int i) {
        Frame frame = latest(i);
        if (frame == null) {
            return -1;
        }
        tape = frame.bytes.clone();
        return tape.length;
    }

    int tape(int i) {
        return i >= 0 && i < tape.length ? tape[i] & 255 : -1;
    }

    int secret(int station, long a, long b, long c, long d) {
        if (station < 1 || station > 8) {
            return -1;
        }
        own[station].secret = Reference.longs(a, b, c, d);
        return 0;
    }

    int known(int station, long a, long b, long c, long d) {
        if (station < 1 || station > 8) {
            return -1;
        }
        atAp[station].secret = Reference.longs(a, b, c, d);
        return 0;
    }

    int nonce(int node, long a, long b, long c, long d) {
        if (node < 0 || node > 8) {
            return -1;
        }
        nodes[node].nonce = Reference.longs(a, b, c, d);
        return 0;
    }

    int size(int bytes) {
        if (bytes < 16 || bytes > 255) {
            return -1;
        }
        int was = size;
        size = bytes;
        return was;
    }

    int limit(int tries) {
        if (tries < 1 || tries > 15) {
            return -1;
        }
        int was = limit;
        limit = tries;
        return was;
    }

    int draw(int v) {
        if (v < 0 || v > 127 || draws.size() == 200) {
            return -1;
        }
        draws.addLast(v);
        return draws.size();
    }

    int noise(int from, int to) {
        if (noises.size() == 30 || from < slot() || to < from || (long) to - from + 1 > 2000) {
            return -1;
        }
        noises.add(new int[] {from, to});
        return noises.size();
    }

    int put(int slot) {
        if (puts.size() == 20 || tape.length == 0 || slot < slot()) {
            return -1;
        }
        Put put = new Put();
        put.bytes = tape;
        put.slot = slot;
        puts.add(put);
        tape = new byte[0];
        return puts.size();
    }

    int join(int station) {
        if (station < 1 || station > 8) {
            return -1;
        }
        own[station].unkey(1);
        nodes[station].asked = true;
        enqueue(station, 0, 176, Reference.bytes(0, 0, 1, 0, 0, 0));
        return 0;
    }

    int leave(int station, int reason) {
        if (station < 1 || station > 8 || reason < 0 || reason > 255) {
            return -1;
        }
        own[station].unkey(1);
        nodes[station].asked = false;
        enqueue(station, 0, 192, Reference.bytes(reason, 0));
        return 0;
    }

    int submit(int from, int to) {
        if (from < 0 || from > 8 || to < 0 || to > 8 || from == to || tape.length > 200 || ends.size() == 200) {
            return -1;
        }
        byte[] message = Reference.join(Reference.bytes(170, 170, 3, 0, 0, 0, 8, 0), tape);
        tape = new byte[0];
        Side side = from == 0 ? atAp[to] : own[from];
        if (side.state != 4) {
            ends.add(4);
            return ends.size() - 1;
        }
        Item item = enqueue(from, from == 0 ? to : 0, 8, message);
        ends.add(item == null ? 3 : 0);
        if (item != null) {
            item.sealed = true;
            item.third = from == 0 ? 0 : to;
            item.submission = ends.size() - 1;
        }
        return ends.size() - 1;
    }

    int ended(int i) {
        return i >= 0 && i < ends.size() ? ends.get(i) : -1;
    }

    int node(int k, int what) {
        if (k < 0 || k > 8) {
            return -1;
        }
        Node node = nodes[k];
        switch (what) {
            case 0:
                int keyed = 0;
                for (int i = 1; i < 9; i++) {
                    keyed += atAp[i].state == 4 ? 1 : 0;
                }
                return k == 0 ? keyed : own[k].state;
            case 1: return k == 0 ? 0 : atAp[k].state;
            case 2: return node.queue.size();
            case 3: return node.backoff;
            case 4: return node.cw;
            case 5: return node.tries;
            case 6: return node.waits ? 1 : 0;
            case 7: return node.nextSequence;
            case 8: return node.delivered.size();
            case 9: return node.again;
            case 10: return node.dropped;
            default: return -1;
        }
    }

    int key(int station, int side, int i) {
        if (station < 1 || station > 8 || side < 0 || side > 1 || i < 0 || i > 15) {
            return -1;
        }
        byte[] key = (side == 0 ? own : atAp)[station].key;
        return key == null ? -1 : key[i] & 255;
    }

    int delivered(int k, int i, int what) {
        if (k < 0 || k > 8 || i < 0 || i > 11 || i >= nodes[k].delivered.size()) {
            return -1;
        }
        byte[] said = nodes[k].delivered.get(i);
        if (what == 0) {
            return nodes[k].deliveredFrom.get(i);
        }
        if (what == 1) {
            return said.length;
        }
        return what >= 10 && what - 10 < said.length ? said[what - 10] & 255 : -1;
    }

    int air(int i, int what) {
        Frame frame = latest(i);
        if (frame == null) {
            return -1;
        }
        switch (what) {
            case 0: return frame.first;
            case 1: return frame.sender;
            case 2: return frame.bytes.length;
            case 3: return frame.last - frame.first + 1;
            case 4: return !frame.over ? 2 : frame.clean ? 1 : 0;
            default:
                return what >= 10 && what - 10 < frame.bytes.length ? frame.bytes[what - 10] & 255 : -1;
        }
    }

    int count(int what) {
        switch (what) {
            case 0: return slot();
            case 1: return log.size();
            case 2:
                int spoiled = 0;
                for (Frame frame : log) {
                    spoiled += frame.over && !frame.clean ? 1 : 0;
                }
                return spoiled;
            case 3: return draws.size();
            case 4: return tape.length;
            case 5: return ends.size();
            case 6:
                int quiet = 0;
                for (boolean b : busy) {
                    quiet += b ? 0 : 1;
                }
                return quiet;
            case 7: return failed;
            case 8: return puts.size();
            default: return -1;
        }
    }

    int go(int slots) {
        if (slots < 0 || slots > 3000) {
            return -1;
        }
        int before = log.size();
        for (int i = 0; i < slots; i++) {
            step();
        }
        return log.size() - before;
    }

    // ---- one slot

    private boolean wasQuiet(int slot) {
        return slot < 0 || !busy.get(slot);
    }

    private int nextDraw() {
        return draws.isEmpty() ? 0 : draws.removeFirst();
    }

    private void step() {
        int now = slot();
        boolean threeAhead = wasQuiet(now - 1) && wasQuiet(now - 2) && wasQuiet(now - 3);
        for (int k = 0; k < 9; k++) {
            Node node = nodes[k];
            node.endedNow = false;
            if (node.dueSlot == now) {
                byte[] ack = node.dueAck;
                node.dueSlot = -1;
                node.dueAck = null;
                if (ack != null) {
                    node.sending = begin(ack, k);
                } else {
                    beginAtHand(k);
                }
            } else if (node.sending == null && node.dueSlot < 0 && !node.waits && !node.queue.isEmpty()
                    && node.backoff == 0 && threeAhead) {
                beginAtHand(k);
            }
        }
        for (Put put : new ArrayList<>(puts)) {
            if (put.slot == now) {
                puts.remove(put);
                begin(put.bytes, 9);
            }
        }
        boolean noisy = false;
        for (int[] noise : noises) {
            noisy |= noise[0] <= now && now <= noise[1];
        }
        for (Frame frame : onAir) {
            if (noisy || onAir.size() > 1) {
                frame.clean = false;
            }
        }
        busy.add(!onAir.isEmpty());
        endings(now);
        timeouts();
        boolean fourQuiet = threeAhead && wasQuiet(now);
        for (Node node : nodes) {
            if (node.sending == null && node.dueSlot < 0 && !node.waits && !node.queue.isEmpty() && node.backoff > 0
                    && fourQuiet) {
                node.backoff--;
            }
        }
    }

    private Frame begin(byte[] bytes, int sender) {
        Frame frame = new Frame();
        frame.bytes = bytes.clone();
        frame.sender = sender;
        frame.first = slot();
        frame.last = frame.first + 2 + (int) Math.ceil(bytes.length / 32.0) - 1;
        log.add(frame);
        onAir.add(frame);
        return frame;
    }

    private void beginAtHand(int k) {
        Node node = nodes[k];
        Item item = node.queue.get(0);
        if (node.atHand == null) {
            boolean more = node.part + 1 < item.parts.size();
            int flags = item.kind != 8 ? 0 : (k == 0 ? 2 : 1) | (more ? 4 : 0) | (item.sealed ? 64 : 0);
            byte[] header = Reference.header(item.kind, flags, item.receiver, k, item.third,
                    node.part + 16 * item.sequence);
            byte[] part = item.parts.get(node.part);
            if (item.sealed) {
                Side side = k == 0 ? atAp[item.receiver] : own[k];
                if (side.key == null) {
                    out(node, 5);
                    return;
                }
                node.atHand = Reference.sealedFrame(header, side.pnNext++, side.key, part);
            } else {
                node.atHand = Reference.withFcs(Reference.join(header, part));
            }
        }
        node.sending = begin(node.atHand, k);
    }

    private void out(Node node, int end) {
        Item item = node.queue.remove(0);
        if (item.submission >= 0) {
            ends.set(item.submission, end);
        }
        node.tries = 0;
        node.cw = 7;
        node.part = 0;
        node.atHand = null;
        if (!node.queue.isEmpty()) {
            node.backoff = nextDraw() & node.cw;
        }
    }

    private Item enqueue(int from, int receiver, int kind, byte[] message) {
        Node node = nodes[from];
        if (node.queue.size() == 12) {
            return null;
        }
        Item item = new Item();
        item.kind = kind;
        item.receiver = receiver;
        item.sequence = node.nextSequence;
        node.nextSequence = node.nextSequence == 4095 ? 0 : node.nextSequence + 1;
        for (int at = 0; at < message.length; at += size) {
            item.parts.add(Arrays.copyOfRange(message, at, Math.min(at + size, message.length)));
        }
        node.queue.add(item);
        if (node.queue.size() == 1) {
            node.backoff = nextDraw() & node.cw;
        }
        return item;
    }

    private void timeouts() {
        for (Node node : nodes) {
            if (!node.waits || node.endedNow) {
                continue;
            }
            node.waited++;
            if (node.waited < 4) {
                continue;
            }
            node.waits = false;
            failed++;
            node.tries++;
            if (node.tries >= limit) {
                out(node, 2);
            } else {
                node.cw = Math.min(127, 2 * node.cw + 1);
                node.backoff = nextDraw() & node.cw;
                byte[] frame = Arrays.copyOf(node.atHand, node.atHand.length - 4);
                frame[1] |= 8;
                node.atHand = Reference.withFcs(frame);
            }
        }
    }

    private void endings(int now) {
        List<Frame> over = new ArrayList<>();
        for (int k = 0; k < 9; k++) {
            if (nodes[k].sending != null && nodes[k].sending.last == now) {
                over.add(nodes[k].sending);
            }
        }
        for (Frame frame : onAir) {
            if (frame.sender == 9 && frame.last == now) {
                over.add(frame);
            }
        }
        for (Frame frame : over) {
            frame.over = true;
            onAir.remove(frame);
            if (frame.sender < 9) {
                Node node = nodes[frame.sender];
                node.sending = null;
                if (!frame.isAck()) {
                    node.waits = true;
                    node.waited = 0;
                    node.endedNow = true;
                }
            }
            for (int k = 0; k < 9; k++) {
                if (frame.clean && k != frame.sender) {
                    lookAt(k, frame.bytes, now);
                }
            }
        }
    }

    private static int addressAt(byte[] frame, int at) {
        for (int k = 0; k < 9; k++) {
            if (Arrays.equals(Arrays.copyOfRange(frame, at, at + 6), Reference.address(k))) {
                return k;
            }
        }
        return -1;
    }

    private static boolean told(byte[] frame) {
        if (frame.length < 14) {
            return false;
        }
        int second = frame[1] & 255;
        switch (frame[0] & 255) {
            case 212: return frame.length == 14 && second == 0;
            case 176: case 0: case 16: case 192: return frame.length >= 28 && (second == 0 || second == 8);
            case 8: return frame.length >= 28 && (second & 0xB0) == 0;
            default: return false;
        }
    }

    private void lookAt(int k, byte[] frame, int now) {
        Node node = nodes[k];
        if (!told(frame) || addressAt(frame, 4) != k
                || !Arrays.equals(frame, Reference.withFcs(Arrays.copyOf(frame, frame.length - 4)))) {
            return;
        }
        if ((frame[0] & 255) == 212) {
            if (node.waits) {
                node.waits = false;
                node.tries = 0;
                node.part++;
                node.atHand = null;
                if (node.part < node.queue.get(0).parts.size()) {
                    node.dueSlot = now + 2;
                } else {
                    out(node, 1);
                }
            }
            return;
        }
        node.dueSlot = now + 2;
        node.dueAck = Reference.withFcs(
                Reference.join(Reference.bytes(212, 0, 0, 0), Arrays.copyOfRange(frame, 10, 16)));
        int speaker = addressAt(frame, 10);
        if (speaker < 0) {
            return;
        }
        int sc = (frame[22] & 255) + 256 * (frame[23] & 255);
        if ((frame[1] & 8) != 0 && node.latest.getOrDefault(speaker, -1) == sc) {
            node.again++;
            return;
        }
        node.latest.put(speaker, sc);
        byte[] body = Arrays.copyOfRange(frame, 24, frame.length - 4);
        if (k == 0 && speaker > 0) {
            apActs(speaker, frame, body);
        } else if (k > 0 && speaker == 0) {
            stationActs(k, frame, body);
        }
    }

    private static boolean is(byte[] body, int... values) {
        return Arrays.equals(body, Reference.bytes(values));
    }

    private void apActs(int s, byte[] frame, byte[] body) {
        Side side = atAp[s];
        int kind = frame[0] & 255;
        if (kind == 176 && is(body, 0, 0, 1, 0, 0, 0)) {
            side.unkey(2);
            enqueue(0, s, 176, Reference.bytes(0, 0, 2, 0, 0, 0));
        } else if (kind == 0 && is(body, 1, 0, 10, 0)) {
            if (side.state >= 2) {
                side.unkey(3);
                enqueue(0, s, 16, Reference.bytes(1, 0, 0, 0, s, 192));
                enqueue(0, s, 8, hand(1, nodes[0].nonce, null));
            } else {
                enqueue(0, s, 192, Reference.bytes(6, 0));
            }
        } else if (kind == 192 && body.length == 2 && body[1] == 0) {
            side.unkey(1);
        } else if (kind == 8 && (frame[1] & 3) == 1) {
            if ((frame[1] & 64) != 0) {
                if (side.state != 4) {
                    enqueue(0, s, 192, Reference.bytes(7, 0));
                } else {
                    sealed(0, s, side, frame, body);
                }
            } else if (side.state >= 3 && isHand(frame, body, 2, 49)) {
                byte[] ptk = Reference.ptk(side.secret, s, nodes[0].nonce, Arrays.copyOfRange(body, 9, 41));
                if (rightMic(ptk, body)) {
                    side.tried = ptk;
                    enqueue(0, s, 8, hand(3, nodes[0].nonce, ptk));
                }
            } else if (side.state >= 3 && isHand(frame, body, 4, 17) && side.tried != null
                    && rightMic(side.tried, body)) {
                side.rekey();
            }
        }
    }

    private void stationActs(int s, byte[] frame, byte[] body) {
        Side side = own[s];
        int kind = frame[0] & 255;
        if (kind == 176 && is(body, 0, 0, 2, 0, 0, 0) && nodes[s].asked && side.state == 1) {
            side.state = 2;
            enqueue(s, 0, 0, Reference.bytes(1, 0, 10, 0));
        } else if (kind == 16 && is(body, 1, 0, 0, 0, s, 192) && side.state == 2) {
            side.state = 3;
        } else if (kind == 192 && body.length == 2 && body[1] == 0) {
            side.unkey(1);
        } else if (kind == 8 && (frame[1] & 3) == 2) {
            if ((frame[1] & 64) != 0) {
                if (side.state == 4) {
                    sealed(s, s, side, frame, body);
                }
            } else if (side.state >= 3 && isHand(frame, body, 1, 33)) {
                side.triedNonce = Arrays.copyOfRange(body, 9, 41);
                side.tried = Reference.ptk(side.secret, s, side.triedNonce, nodes[s].nonce);
                enqueue(s, 0, 8, hand(2, nodes[s].nonce, side.tried));
            } else if (side.state >= 3 && isHand(frame, body, 3, 49) && side.tried != null
                    && Arrays.equals(side.triedNonce, Arrays.copyOfRange(body, 9, 41))
                    && rightMic(side.tried, body)) {
                side.rekey();
                enqueue(s, 0, 8, hand(4, new byte[0], side.tried));
            }
        }
    }

    private static byte[] hand(int number, byte[] nonce, byte[] ptk) {
        byte[] hand = Reference.join(Reference.bytes(number), nonce);
        byte[] mic = ptk == null ? new byte[0] : Reference.mic(ptk, hand);
        return Reference.join(Reference.bytes(170, 170, 3, 0, 0, 0, 136, 142), hand, mic);
    }

    private static boolean isHand(byte[] frame, byte[] body, int number, int length) {
        return (frame[22] & 15) == 0 && (frame[1] & 4) == 0 && body.length == 8 + length
                && is(Arrays.copyOf(body, 9), 170, 170, 3, 0, 0, 0, 136, 142, number);
    }

    private static boolean rightMic(byte[] ptk, byte[] body) {
        byte[] hand = Arrays.copyOfRange(body, 8, body.length - 16);
        return Arrays.equals(Reference.mic(ptk, hand), Arrays.copyOfRange(body, body.length - 16, body.length));
    }

    private void sealed(int k, int s, Side side, byte[] frame, byte[] body) {
        Node node = nodes[k];
        byte[] part = null;
        if (body.length >= 16 && body[2] == 0 && body[3] == 32 && Reference.pn(frame) > side.pnTaken) {
            part = Reference.openFrame(frame, side.key);
        }
        if (part == null) {
            node.dropped++;
            return;
        }
        side.pnTaken = Reference.pn(frame);
        int number = frame[22] & 15;
        int sequence = ((frame[22] & 255) + 256 * (frame[23] & 255)) / 16;
        if (number == 0) {
            side.begun = new byte[0];
            side.begunSequence = sequence;
            side.begunNext = 0;
        }
        if (side.begun == null || side.begunSequence != sequence || side.begunNext != number) {
            side.begun = null;
            node.dropped++;
            return;
        }
        side.begun = Reference.join(side.begun, part);
        side.begunNext++;
        if (side.begun.length > 208) {
            side.begun = null;
            node.dropped++;
            return;
        }
        if ((frame[1] & 4) == 0) {
            byte[] whole = side.begun;
            side.begun = null;
            if (whole.length >= 8 && is(Arrays.copyOf(whole, 8), 170, 170, 3, 0, 0, 0, 8, 0)) {
                wholeMessage(k, s, whole, addressAt(frame, 16));
            }
        }
    }

    private void wholeMessage(int k, int s, byte[] whole, int third) {
        if (k > 0 && third >= 0 || k == 0 && third == 0) {
            nodes[k].delivered.add(Arrays.copyOfRange(whole, 8, whole.length));
            nodes[k].deliveredFrom.add(k > 0 ? third : s);
        } else if (k == 0 && third > 0 && third != s && atAp[third].state == 4) {
            Item item = enqueue(0, third, 8, whole);
            if (item != null) {
                item.sealed = true;
                item.third = s;
            }
        }
    }

    // ---- for a test that forges: what nobody outside could see

    byte[] keyOf(int station, int side) {
        return (side == 0 ? own : atAp)[station].key;
    }

    long takenBy(int station, int side) {
        return (side == 0 ? own : atAp)[station].pnTaken;
    }
}
