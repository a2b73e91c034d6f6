import java.util.Arrays;

/**
 * A radio cell after IEEE 802.11-2012: an access point (AP) and eight stations on one medium.
 *
 * <p>The words in capitals are those of the document (DOC.md), and mean here what they mean there. Bytes are held as
 * ints 0 .. 255, so that no sign has to be thought of. Every row is made by a constructor and used again: no call makes
 * an object.
 */
public final class WirelessCell {
    public static final int NONE = -1;

    private static final int AP = 0;
    private static final int NODES = 9;
    private static final int OTHERS = 9;

    private static final int LONGEST_FRAME = 300;
    private static final int LONGEST_MESSAGE = 208;
    private static final int LONGEST_SAID = 200;
    private static final int MOST_SUBMISSIONS = 200;
    private static final int MOST_SLOTS = 3000;

    private static final int ACK = 212;
    private static final int AUTH = 176;
    private static final int ASK = 0;
    private static final int GRANT = 16;
    private static final int LEAVE = 192;
    private static final int DATA = 8;

    private static final int TO_AP = 1;
    private static final int FROM_AP = 2;
    private static final int MORE = 4;
    private static final int AGAIN = 8;
    private static final int SEALED = 64;

    private static final int A1_AT = 4;
    private static final int A2_AT = 10;
    private static final int A3_AT = 16;
    private static final int SC_AT = 22;
    private static final int BODY_AT = 24;
    private static final int SEALED_PART_AT = 32;
    private static final int FCS_BYTES = 4;
    private static final int ACK_BYTES = 14;
    private static final int SHORTEST_OTHER = 28;
    private static final int SEAL_BYTES = 16;
    private static final int SEAL_MARK = 32;

    private static final int HEAD_BYTES = 8;
    private static final int NONCE_BYTES = 32;
    private static final int MIC_BYTES = 16;
    private static final int KEY_BYTES = 16;

    private static final int STATE_NONE = 1;
    private static final int STATE_KNOWN = 2;
    private static final int STATE_JOINED = 3;
    private static final int STATE_KEYED = 4;

    private static final int ENDS_UNDER_WAY = 0;
    private static final int ENDS_DONE = 1;
    private static final int ENDS_BY_TRIES = 2;
    private static final int ENDS_LOST = 3;
    private static final int ENDS_NOT_KEYED = 4;
    private static final int ENDS_WITHOUT_KEY = 5;

    private static final int FIRST_CW = 7;
    private static final int LAST_CW = 127;
    private static final int ACK_PATIENCE = 4;
    private static final int DUE_AFTER = 2;

    private final Node[] nodes = new Node[NODES];
    /** What each station has of its pair with the AP; row 0 is there only so that none is null. */
    private final Link[] bySelf = new Link[NODES];
    /** What the AP has of its pair with each station; row 0 as above. */
    private final Link[] byAp = new Link[NODES];
    private final Medium medium = new Medium();
    private final Puts puts = new Puts();
    private final Draws draws = new Draws();
    private final Sha sha = new Sha();
    private final Ccm ccm = new Ccm();
    private final int[] tape = new int[LONGEST_FRAME];
    private int tapeLength;
    private final int[] ends = new int[MOST_SUBMISSIONS];
    private int submissions;
    private int partSize = 255;
    private int tryLimit = 4;
    private int failures;
    private final int[] ackFrame = new int[ACK_BYTES];
    private final int[] bodyAsTold = new int[6];

    public WirelessCell() {
        for (int k = 0; k < NODES; k++) {
            nodes[k] = new Node(k);
            bySelf[k] = new Link();
            byAp[k] = new Link();
        }
    }

    // ---- the TAPE

    public int feed(int a, int b, int c, int d, int e) {
        if (tapeLength + 20 > LONGEST_FRAME) {
            return NONE;
        }
        feedNumber(a);
        feedNumber(b);
        feedNumber(c);
        feedNumber(d);
        feedNumber(e);
        return tapeLength;
    }

    private void feedNumber(int number) {
        Frames.writeHighestFirst(tape, tapeLength, 4, number);
        tapeLength += 4;
    }

    public int end(int n) {
        if (n < 0 || n > tapeLength) {
            return NONE;
        }
        tapeLength = n;
        return n;
    }

    public int alter(int i, int mask) {
        if (i < 0 || i >= tapeLength || mask < 1 || mask > 255) {
            return NONE;
        }
        tape[i] ^= mask;
        return tape[i];
    }

    public int check() {
        if (tapeLength + FCS_BYTES > LONGEST_FRAME) {
            return NONE;
        }
        Frames.writeFcs(tape, tapeLength);
        tapeLength += FCS_BYTES;
        return tapeLength;
    }

    public int copy(int i) {
        int row = medium.rowOf(i);
        if (row == NONE) {
            return NONE;
        }
        tapeLength = medium.lengths[row];
        System.arraycopy(medium.rows[row], 0, tape, 0, tapeLength);
        return tapeLength;
    }

    public int tape(int i) {
        return i >= 0 && i < tapeLength ? tape[i] : NONE;
    }

    // ---- what is told to the cell

    public int secret(int station, long a, long b, long c, long d) {
        if (!isStation(station)) {
            return NONE;
        }
        fillByLongs(bySelf[station].secret, a, b, c, d);
        return 0;
    }

    public int known(int station, long a, long b, long c, long d) {
        if (!isStation(station)) {
            return NONE;
        }
        fillByLongs(byAp[station].secret, a, b, c, d);
        return 0;
    }

    public int nonce(int node, long a, long b, long c, long d) {
        if (!isNode(node)) {
            return NONE;
        }
        fillByLongs(nodes[node].nonce, a, b, c, d);
        return 0;
    }

    private static void fillByLongs(int[] to, long a, long b, long c, long d) {
        Frames.writeHighestFirst(to, 0, 8, a);
        Frames.writeHighestFirst(to, 8, 8, b);
        Frames.writeHighestFirst(to, 16, 8, c);
        Frames.writeHighestFirst(to, 24, 8, d);
    }

    public int size(int bytes) {
        if (bytes < 16 || bytes > 255) {
            return NONE;
        }
        int before = partSize;
        partSize = bytes;
        return before;
    }

    public int limit(int tries) {
        if (tries < 1 || tries > 15) {
            return NONE;
        }
        int before = tryLimit;
        tryLimit = tries;
        return before;
    }

    public int draw(int v) {
        if (v < 0 || v > LAST_CW || !draws.addLast(v)) {
            return NONE;
        }
        return draws.left;
    }

    public int noise(int from, int to) {
        if (from < medium.slot || !medium.addNoise(from, to)) {
            return NONE;
        }
        return medium.noises;
    }

    public int put(int slot) {
        if (tapeLength == 0 || slot < medium.slot || !puts.addLast(tape, tapeLength, slot)) {
            return NONE;
        }
        tapeLength = 0;
        return puts.used;
    }

    // ---- what nodes are told to do

    public int join(int station) {
        if (!isStation(station)) {
            return NONE;
        }
        bySelf[station].loseKey(STATE_NONE);
        bySelf[station].asked = true;
        queueBody(station, AP, AUTH, 1);
        return 0;
    }

    public int leave(int station, int reason) {
        if (!isStation(station) || reason < 0 || reason > 255) {
            return NONE;
        }
        bySelf[station].loseKey(STATE_NONE);
        bySelf[station].asked = false;
        queueBody(station, AP, LEAVE, reason);
        return 0;
    }

    public int submit(int from, int to) {
        if (!isNode(from) || !isNode(to) || from == to) {
            return NONE;
        }
        if (tapeLength > LONGEST_SAID || submissions >= MOST_SUBMISSIONS) {
            return NONE;
        }
        int number = submissions;
        submissions++;
        ends[number] = queueTape(from, to, number);
        tapeLength = 0;
        return number;
    }

    /** Answers the END that the SUBMISSION has for now. */
    private int queueTape(int from, int to, int number) {
        int receiver = from == AP ? to : AP;
        if (linkOf(from, receiver).state != STATE_KEYED) {
            return ENDS_NOT_KEYED;
        }
        Message message = openMessage(from, receiver, DATA);
        if (message == null) {
            return ENDS_LOST;
        }
        message.sealed = true;
        message.third = from == AP ? AP : to;
        message.submission = number;
        Frames.writeHead(message.bytes, 8, 0);
        System.arraycopy(tape, 0, message.bytes, HEAD_BYTES, tapeLength);
        message.length = HEAD_BYTES + tapeLength;
        return ENDS_UNDER_WAY;
    }

    public int go(int slots) {
        if (slots < 0 || slots > MOST_SLOTS) {
            return NONE;
        }
        int before = medium.began;
        int left = slots;
        while (left > 0) {
            int idle = idleSlots(left);
            if (idle > 0) {
                medium.passQuiet(idle);
                left -= idle;
                continue;
            }
            beginNodes();
            puts.begin(medium);
            medium.closeBeginnings();
            int taker = endFrames();
            if (taker != NONE) {
                if (medium.newestBytes()[0] == DATA) {
                    takeData(taker);
                } else {
                    takeManagement(taker);
                }
            }
            failWaiters();
            countDown();
            medium.slot++;
            left--;
        }
        return medium.began - before;
    }

    // ---- what is asked

    public int ended(int submission) {
        return submission >= 0 && submission < submissions ? ends[submission] : NONE;
    }

    public int node(int node, int what) {
        if (!isNode(node)) {
            return NONE;
        }
        Node asked = nodes[node];
        switch (what) {
            case 0: return node == AP ? keyedAtAp() : bySelf[node].state;
            case 1: return node == AP ? 0 : byAp[node].state;
            case 2: return asked.queue.used;
            case 3: return asked.backoff;
            case 4: return asked.cw;
            case 5: return asked.tries;
            case 6: return asked.waitsFrom == NONE ? 0 : 1;
            case 7: return asked.queue.nextSequence;
            case 8: return asked.inbox.delivered;
            case 9: return asked.droppedAgain;
            case 10: return asked.droppedSealed;
            default: return NONE;
        }
    }

    private int keyedAtAp() {
        int keyed = 0;
        for (int k = 1; k < NODES; k++) {
            if (byAp[k].state == STATE_KEYED) {
                keyed++;
            }
        }
        return keyed;
    }

    public int key(int station, int side, int i) {
        if (!isStation(station) || side < 0 || side > 1 || i < 0 || i >= KEY_BYTES) {
            return NONE;
        }
        Link link = side == 0 ? bySelf[station] : byAp[station];
        return link.state == STATE_KEYED ? link.tk[i] : NONE;
    }

    public int delivered(int node, int i, int what) {
        return isNode(node) ? nodes[node].inbox.detail(i, what) : NONE;
    }

    public int air(int i, int what) {
        int row = medium.rowOf(i);
        return row == NONE ? NONE : medium.detail(row, what);
    }

    public int count(int what) {
        switch (what) {
            case 0: return medium.slot;
            case 1: return medium.began;
            case 2: return medium.notClean;
            case 3: return draws.left;
            case 4: return tapeLength;
            case 5: return submissions;
            case 6: return medium.quietSlots;
            case 7: return failures;
            case 8: return puts.used;
            default: return NONE;
        }
    }

    private static boolean isNode(int k) {
        return k >= 0 && k < NODES;
    }

    private static boolean isStation(int k) {
        return k > AP && k < NODES;
    }

    /** What a sender has of its pair with a receiver, one of both being the AP. */
    private Link linkOf(int sender, int receiver) {
        return sender == AP ? byAp[receiver] : bySelf[sender];
    }

    // ---- the QUEUE

    /** A row for something that is QUEUED now, or null if it is lost; the caller fills in its bytes. */
    private Message openMessage(int from, int receiver, int kind) {
        Node node = nodes[from];
        boolean wasEmpty = node.queue.used == 0;
        Message message = node.queue.addLast();
        if (message == null) {
            return null;
        }
        message.kind = kind;
        message.receiver = receiver;
        message.third = AP;
        message.sealed = false;
        message.cut = partSize;
        message.submission = NONE;
        message.length = 0;
        if (wasEmpty) {
            node.backoff = draws.takeFirst() & node.cw;
        }
        return message;
    }

    private void queueBody(int from, int receiver, int kind, int detail) {
        Message message = openMessage(from, receiver, kind);
        if (message != null) {
            message.length = Frames.writeBody(message.bytes, kind, detail);
        }
    }

    /** Queues a HAND; its NONCE is always that of the node that says it, and HAND 1 needs no PTK. */
    private void queueHand(int from, int receiver, int hand, int[] ptk) {
        Message message = openMessage(from, receiver, DATA);
        if (message == null) {
            return;
        }
        int[] bytes = message.bytes;
        Frames.writeHead(bytes, 136, 142);
        bytes[HEAD_BYTES] = hand;
        int length = HEAD_BYTES + 1;
        if (hand != 4) {
            System.arraycopy(nodes[from].nonce, 0, bytes, length, NONCE_BYTES);
            length += NONCE_BYTES;
        }
        if (hand != 1) {
            sha.hashKeyed(ptk, KEY_BYTES, bytes, HEAD_BYTES, length - HEAD_BYTES);
            System.arraycopy(sha.digest, 0, bytes, length, MIC_BYTES);
            length += MIC_BYTES;
        }
        message.length = length;
    }

    private void queueForward(int station, int speaker, Link link) {
        Message message = openMessage(AP, station, DATA);
        if (message == null) {
            return;
        }
        message.sealed = true;
        message.third = speaker;
        message.length = link.length;
        System.arraycopy(link.bytes, 0, message.bytes, 0, link.length);
    }

    /** The first MESSAGE of a node is DONE or GIVEN UP. */
    private void finishFirst(Node node, int how) {
        Message message = node.queue.first();
        if (message.submission != NONE) {
            ends[message.submission] = how;
        }
        node.queue.removeFirst();
        node.tries = 0;
        node.cw = FIRST_CW;
        node.part = 0;
        node.frameLength = 0;
        if (node.queue.used > 0) {
            node.backoff = draws.takeFirst() & node.cw;
        }
    }

    // ---- SLOTS

    /** How many of the next slots nothing can happen in: so long a time may pass at once. */
    private int idleSlots(int most) {
        if (medium.onAir > 0) {
            return 0;
        }
        for (int k = 0; k < NODES; k++) {
            if (nodes[k].queue.used > 0 || nodes[k].dueSlot != NONE) {
                return 0;
            }
        }
        return puts.slotsAhead(medium.slot, most);
    }

    private void beginNodes() {
        boolean quiet = medium.isQuietSince();
        for (int k = 0; k < NODES; k++) {
            Node node = nodes[k];
            if (node.dueSlot == medium.slot) {
                node.dueSlot = NONE;
                if (node.dueAck) {
                    beginAck(node);
                } else {
                    beginFrame(node);
                }
            } else if (quiet && node.backoff == 0 && node.contends(medium.slot)) {
                beginFrame(node);
            }
        }
    }

    private void beginAck(Node node) {
        Arrays.fill(ackFrame, 0);
        ackFrame[0] = ACK;
        System.arraycopy(node.ackTo, 0, ackFrame, A1_AT, node.ackTo.length);
        Frames.writeFcs(ackFrame, ACK_BYTES - FCS_BYTES);
        node.lastSendSlot = medium.begin(ackFrame, ACK_BYTES, node.number);
        node.sendsAck = true;
    }

    private void beginFrame(Node node) {
        if (node.queue.used == 0) {
            return;
        }
        if (node.frameLength == 0) {
            Message message = node.queue.first();
            Link link = linkOf(node.number, message.receiver);
            if (message.sealed && link.state != STATE_KEYED) {
                finishFirst(node, ENDS_WITHOUT_KEY);
                return;
            }
            makeFrame(node, message, link);
        }
        node.lastSendSlot = medium.begin(node.frame, node.frameLength, node.number);
        node.sendsAck = false;
    }

    /** Makes the FRAME of the part at hand, for the first time: sent again, it stays as it is sealed here. */
    private void makeFrame(Node node, Message message, Link link) {
        int[] frame = node.frame;
        int from = node.part * message.cut;
        int length = Math.min(message.cut, message.length - from);
        Frames.writeHeader(frame, message, node.number, node.part);
        int at = BODY_AT;
        if (message.sealed) {
            Frames.writeSealHeader(frame, link.nextToSeal);
            link.nextToSeal++;
            at = SEALED_PART_AT;
        }
        System.arraycopy(message.bytes, from, frame, at, length);
        at += length;
        if (message.sealed) {
            ccm.seal(frame, length, link.tk);
            at += Ccm.MIC;
        }
        Frames.writeFcs(frame, at);
        node.frameLength = at + FCS_BYTES;
    }

    /** Ends the FRAMES whose last slot this is; answers the node that is to heed one that it took, or NONE. */
    private int endFrames() {
        for (int k = 0; k < NODES; k++) {
            Node node = nodes[k];
            if (node.lastSendSlot == medium.slot && !node.sendsAck) {
                node.waitsFrom = medium.slot;
            }
        }
        return medium.closeEndings() ? takeFrame() : NONE;
    }

    /** Has the node that is meant take the newest FRAME, which was CLEAN. */
    private int takeFrame() {
        int[] frame = medium.newestBytes();
        if (!Frames.isTakeable(frame, medium.newestLength())) {
            return NONE;
        }
        int taker = Frames.nodeAt(frame, A1_AT);
        if (taker == NONE || taker == medium.newestSender()) {
            return NONE;
        }
        Node node = nodes[taker];
        if (frame[0] == ACK) {
            takeAck(node);
            return NONE;
        }
        node.dueSlot = medium.slot + DUE_AFTER;
        node.dueAck = true;
        System.arraycopy(frame, A2_AT, node.ackTo, 0, node.ackTo.length);
        int speaker = Frames.nodeAt(frame, A2_AT);
        if (speaker == NONE || node.dropsAgain(frame, speaker)) {
            return NONE;
        }
        // Stations heed the AP alone, and the AP heeds stations alone.
        return (taker == AP) == (speaker == AP) ? NONE : taker;
    }

    private void takeAck(Node node) {
        if (node.waitsFrom == NONE || node.queue.used == 0) {
            return;
        }
        Message message = node.queue.first();
        node.waitsFrom = NONE;
        node.tries = 0;
        node.part++;
        node.frameLength = 0;
        if (node.part * message.cut < message.length) {
            node.dueSlot = medium.slot + DUE_AFTER;
            node.dueAck = false;
        } else {
            finishFirst(node, ENDS_DONE);
        }
    }

    private void failWaiters() {
        for (int k = 0; k < NODES; k++) {
            Node node = nodes[k];
            if (node.waitsFrom != NONE && medium.slot - node.waitsFrom >= ACK_PATIENCE) {
                node.waitsFrom = NONE;
                fail(node);
            }
        }
    }

    private void fail(Node node) {
        failures++;
        node.tries++;
        if (node.tries >= tryLimit) {
            finishFirst(node, ENDS_BY_TRIES);
            return;
        }
        node.cw = Math.min(2 * node.cw + 1, LAST_CW);
        node.backoff = draws.takeFirst() & node.cw;
        if (node.frameLength >= SHORTEST_OTHER) {
            node.frame[1] |= AGAIN;
            Frames.writeFcs(node.frame, node.frameLength - FCS_BYTES);
        }
    }

    private void countDown() {
        if (!medium.isQuietSince()) {
            return;
        }
        for (int k = 0; k < NODES; k++) {
            if (nodes[k].backoff > 0 && nodes[k].contends(medium.slot)) {
                nodes[k].backoff--;
            }
        }
    }

    // ---- STATES

    /** What a node does with a FRAME that it took and that is no DATA: the newest one. */
    private void takeManagement(int taker) {
        int[] frame = medium.newestBytes();
        int station = taker == AP ? Frames.nodeAt(frame, A2_AT) : taker;
        if (!isStation(station)) {
            return;
        }
        if (taker == AP) {
            actAtAp(station, frame);
        } else {
            actAtStation(station, frame);
        }
    }

    private void actAtAp(int station, int[] frame) {
        Link link = byAp[station];
        if (hasBody(AUTH, 1)) {
            link.loseKey(STATE_KNOWN);
            queueBody(AP, station, AUTH, 2);
        } else if (hasBody(ASK, 0) && link.state >= STATE_KNOWN) {
            link.loseKey(STATE_JOINED);
            queueBody(AP, station, GRANT, station);
            queueHand(AP, station, 1, link.tried);
        } else if (hasBody(ASK, 0)) {
            queueBody(AP, station, LEAVE, 6);
        } else if (hasBody(LEAVE, frame[BODY_AT])) {
            link.loseKey(STATE_NONE);
        }
    }

    private void actAtStation(int station, int[] frame) {
        Link link = bySelf[station];
        if (hasBody(AUTH, 2)) {
            if (link.asked && link.state == STATE_NONE) {
                link.state = STATE_KNOWN;
                queueBody(station, AP, ASK, 0);
            }
        } else if (hasBody(GRANT, station)) {
            if (link.state == STATE_KNOWN) {
                link.state = STATE_JOINED;
            }
        } else if (hasBody(LEAVE, frame[BODY_AT])) {
            link.loseKey(STATE_NONE);
        }
    }

    /** Whether the newest FRAME is of a kind and has just the BODY that is told for it. */
    private boolean hasBody(int kind, int detail) {
        int[] frame = medium.newestBytes();
        int length = medium.newestLength() - SHORTEST_OTHER;
        if (frame[0] != kind || length != Frames.writeBody(bodyAsTold, kind, detail)) {
            return false;
        }
        return Frames.sameBytes(frame, BODY_AT, bodyAsTold, 0, length);
    }

    /** What a node does with DATA that it took: the newest FRAME. */
    private void takeData(int taker) {
        int[] frame = medium.newestBytes();
        int way = frame[1] & (TO_AP | FROM_AP);
        int station = taker == AP ? Frames.nodeAt(frame, A2_AT) : taker;
        if (way != (taker == AP ? TO_AP : FROM_AP) || !isStation(station)) {
            return;
        }
        Link link = taker == AP ? byAp[station] : bySelf[station];
        boolean sealed = (frame[1] & SEALED) != 0;
        if (sealed && link.state == STATE_KEYED) {
            if (takeSealed(nodes[taker], link, frame)) {
                passOn(taker, station, link, Frames.nodeAt(frame, A3_AT));
            }
        } else if (sealed && taker == AP) {
            queueBody(AP, station, LEAVE, 7);
        } else if (!sealed && link.state >= STATE_JOINED) {
            if (taker == AP) {
                takeHandAtAp(station, link, frame);
            } else {
                takeHandAtStation(station, link, frame);
            }
        }
    }

    /** A MESSAGE of what was said is whole: A3 tells a station who said it, and the AP whom it is for. */
    private void passOn(int taker, int station, Link link, int third) {
        if (taker != AP) {
            if (third != NONE) {
                nodes[taker].inbox.addLast(third, link.bytes, link.length);
            }
        } else if (third == AP) {
            nodes[AP].inbox.addLast(station, link.bytes, link.length);
        } else if (third != NONE && third != station && byAp[third].state == STATE_KEYED) {
            queueForward(third, station, link);
        }
    }

    private void takeHandAtAp(int station, Link link, int[] frame) {
        int hand = Frames.handIn(frame, medium.newestLength());
        if (hand == 2) {
            sha.derive(link.secret, station, nodes[AP].nonce, frame, Frames.HAND_NONCE_AT);
            if (hasRightMic(frame, Frames.HAND_NONCE_AT + NONCE_BYTES, sha.ptk)) {
                link.keepTried(sha.ptk);
                queueHand(AP, station, 3, link.tried);
            }
        } else if (hand == 4 && link.hasTried && hasRightMic(frame, Frames.HAND_NONCE_AT, link.tried)) {
            link.keyByTried();
        }
    }

    private void takeHandAtStation(int station, Link link, int[] frame) {
        int hand = Frames.handIn(frame, medium.newestLength());
        if (hand == 1) {
            System.arraycopy(frame, Frames.HAND_NONCE_AT, link.triedNonce, 0, NONCE_BYTES);
            sha.derive(link.secret, station, link.triedNonce, nodes[station].nonce, 0);
            link.keepTried(sha.ptk);
            queueHand(station, AP, 2, link.tried);
        } else if (hand == 3 && link.hasTried
                && Frames.sameBytes(frame, Frames.HAND_NONCE_AT, link.triedNonce, 0, NONCE_BYTES)
                && hasRightMic(frame, Frames.HAND_NONCE_AT + NONCE_BYTES, link.tried)) {
            link.keyByTried();
            queueHand(station, AP, 4, link.tried);
        }
    }

    private boolean hasRightMic(int[] frame, int micAt, int[] ptk) {
        sha.hashKeyed(ptk, KEY_BYTES, frame, Frames.HAND_AT, micAt - Frames.HAND_AT);
        return Frames.sameBytes(frame, micAt, sha.digest, 0, MIC_BYTES);
    }

    /** Takes a sealed part; true, if it makes a MESSAGE of what was said whole, which the link's bytes are then. */
    private boolean takeSealed(Node node, Link link, int[] frame) {
        int length = medium.newestLength() - SHORTEST_OTHER - SEAL_BYTES;
        if (length < 0 || frame[BODY_AT + 2] != 0 || frame[BODY_AT + 3] != SEAL_MARK) {
            node.droppedSealed++;
            return false;
        }
        long number = Frames.sealNumber(frame);
        if (number <= link.taken || !ccm.open(frame, length, link.tk)) {
            node.droppedSealed++;
            return false;
        }
        link.taken = number;
        if (!link.addPart(frame, ccm.plain, length)) {
            node.droppedSealed++;
            return false;
        }
        if ((frame[1] & MORE) != 0) {
            return false;
        }
        link.begun = false;
        return link.length >= HEAD_BYTES && Frames.hasHead(link.bytes, 0, 8, 0);
    }

    /** A node's QUEUE, its turn on the medium, and what it has taken. */
    private static final class Node {
        final int number;
        final int[] nonce = new int[NONCE_BYTES];
        final Queue queue = new Queue();
        final Inbox inbox = new Inbox();
        /** SC of the latest FRAME from each node that was not dropped as sent again. */
        final int[] latest = new int[NODES];
        int droppedAgain;
        int droppedSealed;
        int backoff;
        int cw = FIRST_CW;
        int tries;
        /** The slot in which something is due, or NONE: an ACK, or else the next part. */
        int dueSlot = NONE;
        boolean dueAck;
        final int[] ackTo = new int[6];
        int lastSendSlot = NONE;
        boolean sendsAck;
        /** The slot in which the FRAME ended whose ACK is waited for, or NONE. */
        int waitsFrom = NONE;
        int part;
        /** The FRAME at hand; of no length, as long as its part has not been sent. */
        final int[] frame = new int[LONGEST_FRAME];
        int frameLength;

        Node(int number) {
            this.number = number;
            Arrays.fill(latest, NONE);
        }

        boolean contends(int slot) {
            return queue.used > 0 && dueSlot == NONE && waitsFrom == NONE && lastSendSlot < slot;
        }

        boolean dropsAgain(int[] frameTaken, int speaker) {
            int sc = frameTaken[SC_AT] + 256 * frameTaken[SC_AT + 1];
            if ((frameTaken[1] & AGAIN) != 0 && latest[speaker] == sc) {
                droppedAgain++;
                return true;
            }
            latest[speaker] = sc;
            return false;
        }
    }

    /** What is QUEUED: a MESSAGE that is sent in parts, or the BODY of another FRAME, which is one part. */
    private static final class Message {
        final int[] bytes = new int[LONGEST_MESSAGE];
        int length;
        int kind;
        int receiver;
        /** The node whose ADDRESS is A3. */
        int third;
        boolean sealed;
        /** SIZE as it was when this was QUEUED. */
        int cut;
        int sequence;
        int submission;
    }

    /** Twelve rows in a ring. */
    private static final class Queue {
        private static final int ROWS = 12;
        private static final int SEQUENCES = 4096;

        private final Message[] rows = new Message[ROWS];
        private int firstRow;
        int used;
        int nextSequence;

        Queue() {
            for (int i = 0; i < ROWS; i++) {
                rows[i] = new Message();
            }
        }

        /** The first row; it means something only where the QUEUE is not empty. */
        Message first() {
            return rows[firstRow];
        }

        Message addLast() {
            if (used >= ROWS) {
                return null;
            }
            Message row = rows[(firstRow + used) % ROWS];
            used++;
            row.sequence = nextSequence;
            nextSequence = (nextSequence + 1) % SEQUENCES;
            return row;
        }

        void removeFirst() {
            if (used > 0) {
                firstRow = (firstRow + 1) % ROWS;
                used--;
            }
        }
    }

    /** MESSAGES DELIVERED at a node: all are counted, the first twelve kept. */
    private static final class Inbox {
        private static final int ROWS = 12;

        private final int[][] said = new int[ROWS][LONGEST_SAID];
        private final int[] lengths = new int[ROWS];
        private final int[] speakers = new int[ROWS];
        int delivered;

        void addLast(int speaker, int[] message, int length) {
            if (delivered < ROWS) {
                speakers[delivered] = speaker;
                lengths[delivered] = length - HEAD_BYTES;
                System.arraycopy(message, HEAD_BYTES, said[delivered], 0, length - HEAD_BYTES);
            }
            delivered++;
        }

        int detail(int i, int what) {
            if (i < 0 || i >= ROWS || i >= delivered) {
                return NONE;
            }
            if (what == 0) {
                return speakers[i];
            }
            if (what == 1) {
                return lengths[i];
            }
            return what >= 10 && what - 10 < lengths[i] ? said[i][what - 10] : NONE;
        }
    }

    /** What one side has of the pair of a station and the AP: STATE, SECRET, keys, and the MESSAGE begun. */
    private static final class Link {
        int state = STATE_NONE;
        boolean asked;
        final int[] secret = new int[32];
        boolean hasTried;
        final int[] tried = new int[Sha.PTK_BYTES];
        /** The AP's NONCE that a station's TRIED one is for. */
        final int[] triedNonce = new int[NONCE_BYTES];
        final int[] tk = new int[KEY_BYTES];
        long taken;
        long nextToSeal = 1;
        boolean begun;
        int sequence;
        int nextPart;
        int length;
        final int[] bytes = new int[LONGEST_MESSAGE];

        void loseKey(int newState) {
            state = newState;
            hasTried = false;
            begun = false;
        }

        void keepTried(int[] ptk) {
            System.arraycopy(ptk, 0, tried, 0, Sha.PTK_BYTES);
            hasTried = true;
        }

        /** TRIED stays: the same HAND, heard again, keys anew. */
        void keyByTried() {
            state = STATE_KEYED;
            System.arraycopy(tried, Sha.PTK_BYTES - KEY_BYTES, tk, 0, KEY_BYTES);
            taken = 0;
            nextToSeal = 1;
            begun = false;
        }

        /** False, if the part is dropped, and the MESSAGE begun with it. */
        boolean addPart(int[] frame, int[] part, int partLength) {
            int number = frame[SC_AT] & 15;
            int itsSequence = (frame[SC_AT] + 256 * frame[SC_AT + 1]) >> 4;
            if (number == 0) {
                begun = true;
                sequence = itsSequence;
                nextPart = 0;
                length = 0;
            }
            boolean fits = begun && number == nextPart && itsSequence == sequence
                    && length + partLength <= LONGEST_MESSAGE;
            if (!fits) {
                begun = false;
                return false;
            }
            System.arraycopy(part, 0, bytes, length, partLength);
            length += partLength;
            nextPart++;
            return true;
        }
    }

    /**
     * The air: its slots, the latest FRAMES that began, and NOISE.
     *
     * <p>A FRAME that ends CLEAN is the newest one, as no other began in its slots; so those on the air need no list:
     * how many end in which slot is enough.
     */
    private static final class Medium {
        private static final int ROWS = 40;
        private static final int MOST_NOISES = 30;
        private static final int MOST_NOISY_SLOTS = 2000;
        /** A power of two above the slots that any FRAME lasts, so that a slot's number is masked to a row. */
        private static final int ENDING_ROWS = 16;
        private static final int QUIET_AHEAD = 3;

        final int[][] rows = new int[ROWS][LONGEST_FRAME];
        final int[] lengths = new int[ROWS];
        private final int[] senders = new int[ROWS];
        private final int[] firstSlots = new int[ROWS];
        private final int[] lastSlots = new int[ROWS];
        private final boolean[] spoiled = new boolean[ROWS];
        private int newest = ROWS - 1;
        private int kept;
        int began;
        private final int[] endings = new int[ENDING_ROWS];
        int onAir;
        int notClean;
        int slot;
        int quietSlots;
        private int lastBusySlot = -1 - QUIET_AHEAD;
        private final int[] noiseFrom = new int[MOST_NOISES];
        private final int[] noiseTo = new int[MOST_NOISES];
        int noises;

        boolean addNoise(int from, int to) {
            if (noises >= MOST_NOISES || from < 0 || to < from || to - from >= MOST_NOISY_SLOTS) {
                return false;
            }
            noiseFrom[noises] = from;
            noiseTo[noises] = to;
            noises++;
            return true;
        }

        private boolean isNoisy() {
            for (int i = 0; i < noises; i++) {
                if (noiseFrom[i] <= slot && slot <= noiseTo[i]) {
                    return true;
                }
            }
            return false;
        }

        /** Whether the three slots ahead were QUIET; behind closeBeginnings, this slot too. */
        boolean isQuietSince() {
            return slot - lastBusySlot > QUIET_AHEAD;
        }

        void passQuiet(int slots) {
            slot += slots;
            quietSlots += slots;
        }

        /** Answers the last slot of the FRAME that begins. */
        int begin(int[] frame, int length, int sender) {
            int lastSlot = slot + slotsOf(length) - 1;
            newest = (newest + 1) % ROWS;
            kept = Math.min(kept + 1, ROWS);
            System.arraycopy(frame, 0, rows[newest], 0, length);
            lengths[newest] = length;
            senders[newest] = sender;
            firstSlots[newest] = slot;
            lastSlots[newest] = lastSlot;
            spoiled[newest] = false;
            endings[lastSlot & (ENDING_ROWS - 1)]++;
            began++;
            onAir++;
            return lastSlot;
        }

        private static int slotsOf(int length) {
            return 2 + (length + 31) / 32;
        }

        void closeBeginnings() {
            if (onAir == 0) {
                quietSlots++;
                return;
            }
            lastBusySlot = slot;
            if (onAir > 1 || isNoisy()) {
                spoilAll();
            }
        }

        private void spoilAll() {
            for (int i = 0; i < kept; i++) {
                if (lastSlots[i] >= slot) {
                    spoiled[i] = true;
                }
            }
        }

        /** Whether one of the FRAMES that end in this slot, then the newest one, was CLEAN. */
        boolean closeEndings() {
            int row = slot & (ENDING_ROWS - 1);
            int ending = endings[row];
            if (ending == 0) {
                return false;
            }
            endings[row] = 0;
            onAir -= ending;
            boolean clean = lastSlots[newest] == slot && !spoiled[newest];
            notClean += clean ? ending - 1 : ending;
            return clean;
        }

        int[] newestBytes() {
            return rows[newest];
        }

        int newestLength() {
            return lengths[newest];
        }

        int newestSender() {
            return senders[newest];
        }

        /** The row of the i-th latest FRAME, or NONE. */
        int rowOf(int i) {
            return i >= 0 && i < kept ? Math.floorMod(newest - i, ROWS) : NONE;
        }

        int detail(int row, int what) {
            switch (what) {
                case 0: return firstSlots[row];
                case 1: return senders[row];
                case 2: return lengths[row];
                case 3: return slotsOf(lengths[row]);
                case 4: return lastSlots[row] >= slot ? 2 : spoiled[row] ? 0 : 1;
                default: return what >= 10 && what - 10 < lengths[row] ? rows[row][what - 10] : NONE;
            }
        }
    }

    /** What others have put that has not begun, in the order in which it was told. */
    private static final class Puts {
        private static final int ROWS = 20;

        private final int[][] rows = new int[ROWS][LONGEST_FRAME];
        private final int[] lengths = new int[ROWS];
        private final int[] slots = new int[ROWS];
        int used;

        boolean addLast(int[] bytes, int length, int slot) {
            if (used >= ROWS) {
                return false;
            }
            System.arraycopy(bytes, 0, rows[used], 0, length);
            lengths[used] = length;
            slots[used] = slot;
            used++;
            return true;
        }

        /** How many slots, at most so many, go from one on before something begins. */
        int slotsAhead(int slot, int most) {
            int ahead = most;
            for (int i = 0; i < used; i++) {
                ahead = Math.min(ahead, slots[i] - slot);
            }
            return ahead;
        }

        void begin(Medium medium) {
            int stays = 0;
            for (int i = 0; i < used; i++) {
                if (slots[i] == medium.slot) {
                    medium.begin(rows[i], lengths[i], OTHERS);
                } else {
                    moveUp(i, stays);
                    stays++;
                }
            }
            used = stays;
        }

        /** Rows change places, so that each row stays one that can be used again. */
        private void moveUp(int from, int to) {
            int[] row = rows[to];
            rows[to] = rows[from];
            rows[from] = row;
            lengths[to] = lengths[from];
            slots[to] = slots[from];
        }
    }

    /** DRAWS that are left, in a ring. */
    private static final class Draws {
        private static final int ROWS = 200;

        private final int[] values = new int[ROWS];
        private int first;
        int left;

        boolean addLast(int value) {
            if (left >= ROWS) {
                return false;
            }
            values[(first + left) % ROWS] = value;
            left++;
            return true;
        }

        int takeFirst() {
            if (left == 0) {
                return 0;
            }
            int value = values[first];
            first = (first + 1) % ROWS;
            left--;
            return value;
        }
    }

    /** How FRAMES, BODIES and MESSAGES are written and read. */
    private static final class Frames {
        static final int HAND_AT = BODY_AT + HEAD_BYTES;
        static final int HAND_NONCE_AT = HAND_AT + 1;

        private static final int[] HEAD = {170, 170, 3, 0, 0, 0};
        /** Bytes of HANDS 1 to 4; the first row is for none. */
        private static final int[] HAND_BYTES = {0, 33, 49, 49, 17};
        /** CRC-32 by half bytes. */
        private static final int[] CRC = {
            0x00000000, 0x1DB71064, 0x3B6E20C8, 0x26D930AC,
            0x76DC4190, 0x6B6B51F4, 0x4DB26158, 0x5005713C,
            0xEDB88320, 0xF00F9344, 0xD6D6A3E8, 0xCB61B38C,
            0x9B64C2B0, 0x86D3D2D4, 0xA00AE278, 0xBDBDF21C
        };

        static void writeHighestFirst(int[] to, int at, int bytes, long number) {
            for (int i = 0; i < bytes; i++) {
                to[at + i] = (int) (number >> (8 * (bytes - 1 - i))) & 255;
            }
        }

        private static int crcOf(int[] bytes, int length) {
            int crc = -1;
            for (int i = 0; i < length; i++) {
                crc ^= bytes[i];
                crc = (crc >>> 4) ^ CRC[crc & 15];
                crc = (crc >>> 4) ^ CRC[crc & 15];
            }
            return ~crc;
        }

        static void writeFcs(int[] frame, int length) {
            int crc = crcOf(frame, length);
            for (int i = 0; i < FCS_BYTES; i++) {
                frame[length + i] = (crc >>> (8 * i)) & 255;
            }
        }

        private static boolean hasRightFcs(int[] frame, int length) {
            int ahead = length - FCS_BYTES;
            int crc = crcOf(frame, ahead);
            for (int i = 0; i < FCS_BYTES; i++) {
                if (frame[ahead + i] != ((crc >>> (8 * i)) & 255)) {
                    return false;
                }
            }
            return true;
        }

        /** All that makes a CLEAN FRAME one that is TAKEN, but whom it is for. */
        static boolean isTakeable(int[] frame, int length) {
            return length >= ACK_BYTES && hasToldControl(frame, length) && hasRightFcs(frame, length);
        }

        private static boolean hasToldControl(int[] frame, int length) {
            switch (frame[0]) {
                case ACK:
                    return length == ACK_BYTES && frame[1] == 0;
                case AUTH:
                case ASK:
                case GRANT:
                case LEAVE:
                    return length >= SHORTEST_OTHER && (frame[1] & ~AGAIN) == 0;
                case DATA:
                    return length >= SHORTEST_OTHER
                            && (frame[1] & ~(TO_AP | FROM_AP | MORE | AGAIN | SEALED)) == 0;
                default:
                    return false;
            }
        }

        private static void writeAddress(int[] to, int at, int node) {
            to[at] = 2;
            Arrays.fill(to, at + 1, at + 5, 0);
            to[at + 5] = node;
        }

        /** The node whose ADDRESS stands there, or NONE. */
        static int nodeAt(int[] bytes, int at) {
            for (int i = 1; i < 5; i++) {
                if (bytes[at + i] != 0) {
                    return NONE;
                }
            }
            return bytes[at] == 2 && isNode(bytes[at + 5]) ? bytes[at + 5] : NONE;
        }

        static void writeHeader(int[] frame, Message message, int sender, int part) {
            frame[0] = message.kind;
            frame[1] = message.kind == DATA ? dataFlags(message, sender, part) : 0;
            frame[2] = 0;
            frame[3] = 0;
            writeAddress(frame, A1_AT, message.receiver);
            writeAddress(frame, A2_AT, sender);
            writeAddress(frame, A3_AT, message.third);
            int sc = part + 16 * message.sequence;
            frame[SC_AT] = sc & 255;
            frame[SC_AT + 1] = (sc >> 8) & 255;
        }

        private static int dataFlags(Message message, int sender, int part) {
            boolean more = (part + 1) * message.cut < message.length;
            return (sender == AP ? FROM_AP : TO_AP) | (more ? MORE : 0) | (message.sealed ? SEALED : 0);
        }

        static void writeSealHeader(int[] frame, long number) {
            frame[BODY_AT] = (int) number & 255;
            frame[BODY_AT + 1] = (int) (number >> 8) & 255;
            frame[BODY_AT + 2] = 0;
            frame[BODY_AT + 3] = SEAL_MARK;
            for (int i = 2; i < 6; i++) {
                frame[BODY_AT + 2 + i] = (int) (number >> (8 * i)) & 255;
            }
        }

        /** The PN of a sealed part. */
        static long sealNumber(int[] frame) {
            long number = 0;
            for (int i = 5; i >= 2; i--) {
                number = 256 * number + frame[BODY_AT + 2 + i];
            }
            return 65536 * number + 256 * frame[BODY_AT + 1] + frame[BODY_AT];
        }

        /** Writes a BODY that is no DATA; the detail is a step, a station or a reason. Answers its length. */
        static int writeBody(int[] to, int kind, int detail) {
            Arrays.fill(to, 0, 6, 0);
            switch (kind) {
                case AUTH:
                    to[2] = detail;
                    return 6;
                case ASK:
                    to[0] = 1;
                    to[2] = 10;
                    return 4;
                case GRANT:
                    to[0] = 1;
                    to[4] = detail;
                    to[5] = 192;
                    return 6;
                default:
                    to[0] = detail;
                    return 2;
            }
        }

        static void writeHead(int[] message, int kind, int kindToo) {
            System.arraycopy(HEAD, 0, message, 0, HEAD.length);
            message[6] = kind;
            message[7] = kindToo;
        }

        static boolean hasHead(int[] bytes, int at, int kind, int kindToo) {
            return sameBytes(bytes, at, HEAD, 0, HEAD.length) && bytes[at + 6] == kind && bytes[at + 7] == kindToo;
        }

        /** Which HAND unsealed DATA has, or NONE. */
        static int handIn(int[] frame, int length) {
            if ((frame[1] & MORE) != 0 || (frame[SC_AT] & 15) != 0 || length <= HAND_AT + FCS_BYTES) {
                return NONE;
            }
            int hand = frame[HAND_AT];
            if (hand < 1 || hand > 4 || length != HAND_AT + HAND_BYTES[hand] + FCS_BYTES) {
                return NONE;
            }
            return hasHead(frame, BODY_AT, 136, 142) ? hand : NONE;
        }

        static boolean sameBytes(int[] a, int aAt, int[] b, int bAt, int length) {
            for (int i = 0; i < length; i++) {
                if (a[aAt + i] != b[bAt + i]) {
                    return false;
                }
            }
            return true;
        }
    }

    /** HMAC-SHA-1, and the PTK by it. */
    private static final class Sha {
        static final int PTK_BYTES = 48;

        private static final String LABEL = "Pairwise key expansion";
        private static final int BLOCK = 64;
        private static final int DIGEST = 20;
        private static final int SEED = 100;

        final int[] digest = new int[DIGEST];
        final int[] ptk = new int[3 * DIGEST];
        private final int[] seed = new int[SEED];
        /** Room for a padded key, what it goes ahead of (the SEED is the longest), and the padding. */
        private final int[] text = new int[4 * BLOCK];
        private final int[] words = new int[80];
        private final int[] state = new int[5];

        /** The PTK comes into ptk. */
        void derive(int[] secret, int station, int[] apNonce, int[] stationNonce, int stationNonceAt) {
            int at = LABEL.length();
            for (int i = 0; i < at; i++) {
                seed[i] = LABEL.charAt(i);
            }
            seed[at] = 0;
            Frames.writeAddress(seed, at + 1, AP);
            Frames.writeAddress(seed, at + 7, station);
            System.arraycopy(apNonce, 0, seed, at + 13, NONCE_BYTES);
            System.arraycopy(stationNonce, stationNonceAt, seed, at + 13 + NONCE_BYTES, NONCE_BYTES);
            for (int i = 0; i < 3; i++) {
                seed[SEED - 1] = i;
                hashKeyed(secret, secret.length, seed, 0, SEED);
                System.arraycopy(digest, 0, ptk, i * DIGEST, DIGEST);
            }
        }

        /** HMAC with a key of at most 64 bytes, of at most 100 bytes; it comes into digest. */
        void hashKeyed(int[] key, int keyLength, int[] bytes, int at, int length) {
            padKey(key, keyLength, 0x36);
            System.arraycopy(bytes, at, text, BLOCK, length);
            hashText(BLOCK + length);
            padKey(key, keyLength, 0x5c);
            System.arraycopy(digest, 0, text, BLOCK, DIGEST);
            hashText(BLOCK + DIGEST);
        }

        private void padKey(int[] key, int keyLength, int pad) {
            for (int i = 0; i < BLOCK; i++) {
                text[i] = i < keyLength ? key[i] ^ pad : pad;
            }
        }

        private void hashText(int length) {
            int blocks = (length + 8) / BLOCK + 1;
            int end = blocks * BLOCK;
            Arrays.fill(text, length, end, 0);
            text[length] = 128;
            Frames.writeHighestFirst(text, end - 8, 8, 8L * length);
            state[0] = 0x67452301;
            state[1] = 0xEFCDAB89;
            state[2] = 0x98BADCFE;
            state[3] = 0x10325476;
            state[4] = 0xC3D2E1F0;
            for (int i = 0; i < blocks; i++) {
                fillWords(i * BLOCK);
                addWords();
            }
            for (int i = 0; i < 5; i++) {
                Frames.writeHighestFirst(digest, 4 * i, 4, state[i]);
            }
        }

        private void fillWords(int at) {
            for (int i = 0; i < 16; i++) {
                int from = at + 4 * i;
                words[i] = text[from] << 24 | text[from + 1] << 16 | text[from + 2] << 8 | text[from + 3];
            }
            for (int i = 16; i < 80; i++) {
                int mixed = words[i - 3] ^ words[i - 8] ^ words[i - 14] ^ words[i - 16];
                words[i] = mixed << 1 | mixed >>> 31;
            }
        }

        private void addWords() {
            int a = state[0];
            int b = state[1];
            int c = state[2];
            int d = state[3];
            int e = state[4];
            for (int i = 0; i < 80; i++) {
                int turn;
                if (i < 20) {
                    turn = ((b & c) | (~b & d)) + 0x5A827999;
                } else if (i < 40) {
                    turn = (b ^ c ^ d) + 0x6ED9EBA1;
                } else if (i < 60) {
                    turn = ((b & c) | (b & d) | (c & d)) + 0x8F1BBCDC;
                } else {
                    turn = (b ^ c ^ d) + 0xCA62C1D6;
                }
                int mixed = (a << 5 | a >>> 27) + e + words[i] + turn;
                e = d;
                d = c;
                c = b << 30 | b >>> 2;
                b = a;
                a = mixed;
            }
            state[0] += a;
            state[1] += b;
            state[2] += c;
            state[3] += d;
            state[4] += e;
        }
    }

    /** CCM with AES-128 of sealed parts: nonce and additional data are read off the FRAME itself. */
    private static final class Ccm {
        static final int MIC = 8;

        private static final int BLOCK = 16;
        private static final int ROUNDS = 10;
        private static final int ADDITIONAL = 22;
        /** RFC 3610: additional data are there, M is 8, L is 2. */
        private static final int MAC_FLAGS = 64 + 8 * 3 + 1;
        private static final int STREAM_FLAGS = 1;
        private static final int[] SBOX = {
            99, 124, 119, 123, 242, 107, 111, 197, 48, 1, 103, 43, 254, 215, 171, 118,
            202, 130, 201, 125, 250, 89, 71, 240, 173, 212, 162, 175, 156, 164, 114, 192,
            183, 253, 147, 38, 54, 63, 247, 204, 52, 165, 229, 241, 113, 216, 49, 21,
            4, 199, 35, 195, 24, 150, 5, 154, 7, 18, 128, 226, 235, 39, 178, 117,
            9, 131, 44, 26, 27, 110, 90, 160, 82, 59, 214, 179, 41, 227, 47, 132,
            83, 209, 0, 237, 32, 252, 177, 91, 106, 203, 190, 57, 74, 76, 88, 207,
            208, 239, 170, 251, 67, 77, 51, 133, 69, 249, 2, 127, 80, 60, 159, 168,
            81, 163, 64, 143, 146, 157, 56, 245, 188, 182, 218, 33, 16, 255, 243, 210,
            205, 12, 19, 236, 95, 151, 68, 23, 196, 167, 126, 61, 100, 93, 25, 115,
            96, 129, 79, 220, 34, 42, 144, 136, 70, 238, 184, 20, 222, 94, 11, 219,
            224, 50, 58, 10, 73, 6, 36, 92, 194, 211, 172, 98, 145, 149, 228, 121,
            231, 200, 55, 109, 141, 213, 78, 169, 108, 86, 244, 234, 101, 122, 174, 8,
            186, 120, 37, 46, 28, 166, 180, 198, 232, 221, 116, 31, 75, 189, 139, 138,
            112, 62, 181, 102, 72, 3, 246, 14, 97, 53, 87, 185, 134, 193, 29, 158,
            225, 248, 152, 17, 105, 217, 142, 148, 155, 30, 135, 233, 206, 85, 40, 223,
            140, 161, 137, 13, 191, 230, 66, 104, 65, 153, 45, 15, 176, 84, 187, 22
        };

        final int[] plain = new int[LONGEST_FRAME];
        private final int[] mac = new int[BLOCK];
        private final int[] stream = new int[BLOCK];
        private final int[] turned = new int[BLOCK];
        private final int[] roundKeys = new int[BLOCK * (ROUNDS + 1)];

        /** Seals the part that stands in the FRAME, and sets the MIC behind it. */
        void seal(int[] frame, int length, int[] key) {
            expandKey(key);
            System.arraycopy(frame, SEALED_PART_AT, plain, 0, length);
            addUp(frame, length);
            crypt(frame, frame, SEALED_PART_AT, length);
            setFirstBlock(stream, frame, STREAM_FLAGS, 0);
            encrypt(stream);
            for (int i = 0; i < MIC; i++) {
                frame[SEALED_PART_AT + length + i] = mac[i] ^ stream[i];
            }
        }

        /** Opens the part of a FRAME into plain: whether its MIC is right. */
        boolean open(int[] frame, int length, int[] key) {
            expandKey(key);
            crypt(frame, plain, 0, length);
            addUp(frame, length);
            setFirstBlock(stream, frame, STREAM_FLAGS, 0);
            encrypt(stream);
            int differs = 0;
            for (int i = 0; i < MIC; i++) {
                differs |= frame[SEALED_PART_AT + length + i] ^ mac[i] ^ stream[i];
            }
            return differs == 0;
        }

        /** The FRAME's part, xored with the stream, comes to another place or stays at its own. */
        private void crypt(int[] frame, int[] to, int toAt, int length) {
            for (int i = 0; i < length; i++) {
                if (i % BLOCK == 0) {
                    setFirstBlock(stream, frame, STREAM_FLAGS, i / BLOCK + 1);
                    encrypt(stream);
                }
                to[toAt + i] = frame[SEALED_PART_AT + i] ^ stream[i % BLOCK];
            }
        }

        /** The CBC-MAC over plain comes into mac. */
        private void addUp(int[] frame, int length) {
            setFirstBlock(mac, frame, MAC_FLAGS, length);
            encrypt(mac);
            mac[1] ^= ADDITIONAL;
            for (int i = 0; i < ADDITIONAL; i++) {
                int at = (i + 2) % BLOCK;
                if (at == 0) {
                    encrypt(mac);
                }
                mac[at] ^= additional(frame, i);
            }
            encrypt(mac);
            for (int i = 0; i < length; i++) {
                mac[i % BLOCK] ^= plain[i];
                if (i % BLOCK == BLOCK - 1 || i == length - 1) {
                    encrypt(mac);
                }
            }
        }

        private static int additional(int[] frame, int i) {
            switch (i) {
                case 0: return frame[0];
                case 1: return frame[1] & ~AGAIN;
                case 20: return frame[SC_AT] & 15;
                case 21: return 0;
                default: return frame[A1_AT + i - 2];
            }
        }

        private static void setFirstBlock(int[] block, int[] frame, int flags, int number) {
            block[0] = flags;
            block[1] = 0;
            for (int i = 0; i < 6; i++) {
                block[2 + i] = frame[A2_AT + i];
            }
            for (int i = 0; i < 4; i++) {
                block[8 + i] = frame[SEALED_PART_AT - 1 - i];
            }
            block[12] = frame[BODY_AT + 1];
            block[13] = frame[BODY_AT];
            block[14] = (number >> 8) & 255;
            block[15] = number & 255;
        }

        private void expandKey(int[] key) {
            System.arraycopy(key, 0, roundKeys, 0, BLOCK);
            int roundConstant = 1;
            for (int i = BLOCK; i < roundKeys.length; i += 4) {
                boolean firstWord = i % BLOCK == 0;
                for (int j = 0; j < 4; j++) {
                    int before = roundKeys[firstWord ? i - 4 + (j + 1) % 4 : i - 4 + j];
                    roundKeys[i + j] = roundKeys[i - BLOCK + j] ^ (firstWord ? SBOX[before & 255] : before);
                }
                if (firstWord) {
                    roundKeys[i] ^= roundConstant;
                    roundConstant = (roundConstant << 1) ^ (roundConstant >> 7) * 283;
                }
            }
        }

        private void encrypt(int[] block) {
            for (int i = 0; i < BLOCK; i++) {
                block[i] ^= roundKeys[i];
            }
            for (int round = 1; round <= ROUNDS; round++) {
                for (int i = 0; i < BLOCK; i++) {
                    turned[i] = SBOX[block[(i + 4 * (i & 3)) & 15] & 255];
                }
                for (int i = 0; i < BLOCK; i++) {
                    int mixed = turned[i];
                    if (round < ROUNDS) {
                        int column = i & 12;
                        int pair = mixed ^ turned[column | ((i + 1) & 3)];
                        mixed ^= turned[column] ^ turned[column + 1] ^ turned[column + 2] ^ turned[column + 3];
                        mixed ^= (pair << 1) ^ (pair >> 7) * 283;
                    }
                    block[i] = mixed ^ roundKeys[BLOCK * round + i];
                }
            }
        }
    }
}
