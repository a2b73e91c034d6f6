import java.util.Arrays;

/** 'Terms' VI: QUEUES, SLOTS and SUBMISSIONS. AUTH has 34 bytes and four slots, an ACK three, END 30 bytes and three. */
final class EdgesOfSlots {
    private final Edges edges;

    EdgesOfSlots(Edges edges) {
        this.edges = edges;
    }

    void all() {
        edges.sentence("VI", "Each node has a QUEUE of 12 MESSAGES (other FRAMES are such, too)", this::queueOfTwelve);
        edges.sentence("VI", "what finds it full is lost.", this::lost);
        edges.sentence("VI", "the node's next sequence number (0 at first, behind 4095 again).", this::sequenceNumbers);
        edges.sentence("VI", "SLOTS 0, 1, .. go one by one.", this::oneByOne);
        edges.sentence("VI", "A FRAME has its slots from the one in which it begins.", this::firstSlot);
        edges.sentence("VI", "A slot is QUIET in which nobody sends", this::quietSlots);
        edges.sentence("VI", "(those ahead of slot 0 were).", this::aheadOfSlotZero);
        edges.sentence("VI", "one with something due in this slot begins that", this::beginsWhatIsDue);
        edges.sentence("VI", "waits for no ACK, has a first MESSAGE and BACKOFF 0, begins its FRAME at hand",
                this::beginsAtHand);
        edges.sentence("VI", "if the three slots ahead were QUIET.", this::threeQuietSlots);
        edges.sentence("VI", "Then what others put on the air in this slot, as told.", this::othersBegin);
        edges.sentence("VI", "A part that is to be sealed, for the first time, without a key of that pair (the AP's as "
                + "it has it) is not sent: its MESSAGE is GIVEN UP.", this::withoutKey);
        edges.sentence("VI", "in each of its slots it was alone", this::alone);
        edges.sentence("VI", "and no NOISE was told.", this::noNoise);
        edges.sentence("VI", "the sender of one that is no ACK waits for an ACK from now on", this::waitsFromNowOn);
        edges.sentence("VI", "What is due behind it is due in the slot after next", this::slotAfterNext);
        edges.sentence("VI", "behind an ACK that was taken by a node that waits for one: it waits no more",
                this::ackForWaiting);
        edges.sentence("VI", "tries are 0; if parts are left, the next part is due", this::partsLeft);
        edges.sentence("VI", "else its first MESSAGE is DONE.", this::doneBehindLastPart);
        edges.sentence("VI", "nodes in order that have waited, this slot not the one in which their FRAME ended, for four "
                + "slots: FAILED", this::fourSlots);
        edges.sentence("VI", "if they are LIMIT (1 .. 15; 4 at first) or more, the MESSAGE is GIVEN UP", this::limits);
        edges.sentence("VI", "else CW becomes 2 CW + 1, 127 at most", this::contention);
        edges.sentence("VI", "BACKOFF the next DRAW and CW (bit by bit)", this::backoffByBits);
        edges.sentence("VI", "the FRAME at hand is the same, as sent again (FCS anew).", this::sameFrame);
        edges.sentence("VI", "DONE, GIVEN UP: the MESSAGE is out of the QUEUE, tries are 0, CW is 7", this::outOfQueue);
        edges.sentence("VI", "if there is another one, BACKOFF is the next DRAW and CW", this::anotherOne);
        edges.sentence("VI", "so it is when something is QUEUED where nothing was.", this::whereNothingWas);
        edges.sentence("VI", "DRAWS (0 .. 127) are taken in order", this::drawsInOrder);
        edges.sentence("VI", "0 if none is left.", this::noneLeft);
        edges.sentence("VI", "BACKOFF above 0: 1 less, if this slot and the three ahead were QUIET.", this::countDown);
        edges.sentence("VI", "ENDS 0 under way, 1 DONE (by the node that said it)", this::doneBySayer);
        edges.sentence("VI", "2 GIVEN UP by tries", this::givenUpByTries);
        edges.sentence("VI", "3 lost", this::lostSubmission);
        edges.sentence("VI", "4 not keyed as it was told (a station by itself; the AP: that station as the AP has it)",
                this::notKeyed);
        edges.sentence("VI", "5 GIVEN UP without a key.", this::givenUpWithoutKey);
    }

    private static WirelessCell joining(int... draws) {
        WirelessCell cell = new WirelessCell();
        for (int v : draws) {
            cell.draw(v);
        }
        cell.join(1);
        return cell;
    }

    private static void put(WirelessCell cell, int slot, byte[] frame) {
        Cells.load(cell, frame);
        cell.put(slot);
    }

    // ---- the QUEUE

    private void queueOfTwelve() {
        WirelessCell cell = Cells.keyed(1);
        for (int n = 1; n <= 13; n++) {
            cell.submit(1, 0);
            edges.due("MESSAGES, of " + n, cell.node(1, 2), Math.min(n, 12));
        }
        WirelessCell other = new WirelessCell();
        for (int n = 1; n <= 13; n++) {
            other.leave(8, n);
            edges.due("other FRAMES, of " + n, other.node(8, 2), Math.min(n, 12));
        }
        edges.due("each node has its own", other.node(7, 2), 0);
        other.go(300);
        edges.due("the last that is sent", other.air(1, 10 + 24), 12);
        edges.due("all are sent", other.count(1), 24);
    }

    private void lost() {
        Others others = Others.atAp(2);
        WirelessCell cell = others.cell;
        for (int n = 0; n < 11; n++) {
            others.put(others.frame(Others.AUTH, 0, 0, 8, Others.AUTH_1));
            cell.go(5);
        }
        edges.due("eleven are QUEUED", cell.node(0, 2), 11);
        int next = cell.node(0, 7);
        others.put(others.frame(Others.ASK, 0, 0, 1, Others.ASKS));
        edges.due("GRANT is the twelfth, HAND 1 is lost", cell.node(0, 2), 12);
        edges.due("and has no sequence number", cell.node(0, 7), next + 1);
        edges.due("joined all the same", others.stateAtAp(), 3);
        cell.go(5);
        others.put(others.frame(Others.AUTH, 0, 0, 1, Others.AUTH_1));
        edges.due("AUTH of step 2 is lost", cell.node(0, 7), next + 1);
        edges.due("known all the same", others.stateAtAp(), 2);
    }

    /** No run of 512 calls gives 4096 numbers: this one is longer, as the sentence can't be tested otherwise. */
    private void sequenceNumbers() {
        WirelessCell cell = new WirelessCell();
        edges.due("at first", cell.node(1, 7), 0);
        for (int i = 0; i < 341; i++) {
            for (int j = 0; j < 12; j++) {
                cell.leave(1, 0);
            }
            cell.go(200);
        }
        edges.due("behind 4092", cell.node(1, 7), 4092);
        int[] want = {4092, 4093, 4094, 4095, 0, 1};
        for (int i = 0; i < want.length; i++) {
            cell.leave(1, 0);
            edges.due("the next one", cell.node(1, 7), want[i] == 4095 ? 0 : want[i] + 1);
            cell.go(1);
            edges.due("SC", cell.air(0, 10 + 22) + 256 * cell.air(0, 10 + 23), 16 * want[i]);
            cell.go(20);
        }
        edges.due("none was dropped as sent again", cell.node(0, 9), 0);
    }

    // ---- who begins

    /** However they are told to go, the same happens in them: a station joins in 58 slots of FRAMES, others have 3. */
    private void oneByOne() {
        int[] steps = {1, 7, 100, 300, 2100};
        for (int step : steps) {
            WirelessCell cell = joining(3);
            put(cell, 250, Cells.said(1));
            int began = 0;
            for (int slot = 0; slot < 2100; slot += step) {
                began += cell.go(step);
            }
            edges.due("the next slot, by " + step, cell.count(0), 2100);
            edges.due("FRAMES, by " + step, began, 16 + 1);
            edges.due("others' slot, by " + step, cell.air(0, 0), 250);
            edges.due("AUTH's slot, by " + step, cell.air(16, 0), 3);
            edges.due("QUIET slots, by " + step, cell.count(6), 2100 - 58 - 3);
        }
    }

    private void firstSlot() {
        WirelessCell cell = joining(5);
        cell.go(6);
        edges.due("it begins in slot 5", cell.air(0, 0), 5);
        edges.due("so five slots were QUIET", cell.count(6), 5);
        cell.go(2);
        edges.due("slot 7 is not its last one", cell.air(0, 4), 2);
        cell.go(1);
        edges.due("slot 8 is", cell.air(0, 4), 1);
        edges.due("none of them was QUIET", cell.count(6), 5);
        cell.go(1);
        edges.due("slot 9 is", cell.count(6), 6);
    }

    private void quietSlots() {
        WirelessCell cell = new WirelessCell();
        cell.noise(0, 9);
        cell.go(10);
        edges.due("NOISE is nobody", cell.count(6), 10);
        put(cell, 10, Cells.said(1));
        cell.go(4);
        edges.due("others are somebody", cell.count(6), 11);
        cell.join(1);
        edges.due("a slot behind NOISE and others, three QUIET ones ahead", cell.go(3), 1);
        WirelessCell noisy = joining(7);
        noisy.noise(0, 6);
        noisy.go(7);
        edges.due("NOISE is nobody, also where somebody is to send", noisy.count(6), 7);
        noisy.go(4);
        edges.due("a node is somebody", noisy.count(6), 7);
    }

    private void aheadOfSlotZero() {
        WirelessCell cell = joining();
        edges.due("a FRAME begins in slot 0", cell.go(1), 1);
        WirelessCell later = joining(1);
        later.go(1);
        edges.due("BACKOFF counts down in slot 0", later.node(1, 3), 0);
        edges.due("and slot 1 sees it begin", later.go(1), 1);
    }

    private void beginsWhatIsDue() {
        Others others = new Others(new WirelessCell());
        WirelessCell cell = others.cell;
        byte[] end = others.frame(Others.END, 0, 1, 0, Others.ENDS);
        put(cell, 0, end);
        put(cell, 3, Cells.said(300));
        cell.go(4);
        edges.due("slot 4, others send: the ACK begins", cell.go(1), 1);
        edges.due("its sender", cell.air(0, 1), 1);
        edges.due("its slot", cell.air(0, 0), 4);
        WirelessCell parts = Cells.keyed(1);
        parts.size(16);
        int from = parts.count(0);
        Cells.say(parts, 1, 0, 20);
        put(parts, from + 8, Cells.said(300));
        parts.go(9);
        edges.due("slot 9, others send: the next part begins", parts.go(1), 1);
        edges.due("its sender", parts.air(0, 1), 1);
    }

    private void beginsAtHand() {
        WirelessCell none = new WirelessCell();
        edges.due("no first MESSAGE", none.go(50), 0);
        WirelessCell backoff = joining(1);
        edges.due("BACKOFF 1", backoff.go(1), 0);
        edges.due("BACKOFF 0", backoff.go(1), 1);
        WirelessCell waits = new WirelessCell();
        waits.noise(0, 0);
        waits.join(1);
        edges.due("slots 0 .. 6", waits.go(7), 1);
        edges.due("slot 7, three QUIET ones ahead, but it waits", waits.go(1), 0);
        edges.due("slot 8", waits.go(1), 1);
        edges.due("the same FRAME", waits.air(0, 10 + 1), 8);
        WirelessCell all = Cells.keyed(8);
        for (int k = 0; k <= 8; k++) {
            all.draw(k == 0 ? 1 : 2);
            all.submit(k, k == 0 ? 1 : 0);
        }
        edges.due("all nine have one, and BACKOFF", all.go(1), 0);
        edges.due("the AP has BACKOFF 0", all.go(1), 1);
        edges.due("its sender", all.air(0, 1), 0);
    }

    private void threeQuietSlots() {
        for (int slots = 3; slots <= 7; slots++) {
            WirelessCell cell = new WirelessCell();
            put(cell, 0, Cells.said(1));
            cell.go(1);
            cell.join(1);
            cell.go(slots - 1);
            edges.due("others had 0 .. 2, slots 1 .. " + (slots - 1), cell.count(1), slots == 7 ? 2 : 1);
        }
        WirelessCell two = new WirelessCell();
        two.draw(3);
        two.join(1);
        put(two, 0, Cells.said(1));
        two.go(20);
        edges.due("BACKOFF 3, counted in slots 6, 7, 8", two.air(1, 0), 9);
    }

    private void othersBegin() {
        WirelessCell cell = new WirelessCell();
        cell.join(1);
        cell.join(8);
        for (int n = 1; n <= 18; n++) {
            put(cell, 0, Cells.said(n));
        }
        edges.due("all begin in slot 0", cell.go(1), 20);
        edges.due("station 1", cell.air(19, 1), 1);
        edges.due("station 8", cell.air(18, 1), 8);
        for (int n = 1; n <= 18; n++) {
            edges.due("others, as told", cell.air(18 - n, 2), n);
            edges.due("others", cell.air(18 - n, 1), 9);
        }
        WirelessCell last = new WirelessCell();
        put(last, 2999, Cells.said(1));
        edges.due("in the last slot that goes", last.go(3000), 1);
        put(last, 3001, Cells.said(1));
        edges.due("the slot ahead", last.go(1), 0);
        edges.due("in this slot", last.go(1), 1);
    }

    private void withoutKey() {
        WirelessCell first = Cells.keyed(1);
        first.submit(1, 0);
        first.leave(1, 3);
        edges.due("the first part is not sent", first.go(1), 0);
        edges.due("GIVEN UP", first.ended(0), 5);
        edges.due("out of the QUEUE", first.node(1, 2), 1);
        WirelessCell second = Cells.keyed(1);
        second.size(16);
        Cells.say(second, 1, 0, 20);
        second.go(5);
        second.leave(1, 3);
        edges.due("an ACK, and the second part is not sent", second.go(6), 1);
        edges.due("GIVEN UP", second.ended(0), 5);
        WirelessCell again = Cells.keyed(1);
        again.noise(again.count(0), again.count(0));
        again.submit(1, 0);
        again.go(4);
        again.leave(1, 3);
        edges.due("a part that was sealed is sent again", again.go(8), 1);
        edges.due("not GIVEN UP", again.ended(0), 0);
        edges.due("its second byte", again.air(0, 10 + 1), 73);
        WirelessCell ap = Cells.keyed(1);
        ap.draw(7);
        ap.submit(0, 1);
        ap.leave(1, 3);
        ap.go(3);
        edges.due("the AP as it has it: END was taken", ap.node(1, 1), 1);
        ap.go(40);
        edges.due("GIVEN UP", ap.ended(0), 5);
        WirelessCell kept = Cells.keyed(1);
        kept.submit(0, 1);
        kept.join(1);
        edges.due("the AP as it has it: the station alone has none", kept.go(1), 2);
        edges.due("under way", kept.ended(0), 0);
    }

    // ---- CLEAN

    private void alone() {
        for (int slot = 0; slot <= 12; slot++) {
            WirelessCell cell = new WirelessCell();
            put(cell, slot, Cells.said(1));
            put(cell, 5, Cells.said(33));
            cell.go(30);
            boolean touches = slot >= 3 && slot <= 8;
            edges.due("slots 5 .. 8, others from " + slot, clean(cell, 5), touches ? 0 : 1);
            edges.due("others from " + slot, clean(cell, slot), touches ? 0 : 1);
        }
    }

    /** Whether the FRAME that began in a slot was CLEAN. */
    private static int clean(WirelessCell cell, int slot) {
        return cell.air(0, 0) == slot ? cell.air(0, 4) : cell.air(1, 4);
    }

    private void noNoise() {
        for (int slot = 4; slot <= 9; slot++) {
            WirelessCell cell = joining(5);
            cell.noise(slot, slot);
            cell.go(9);
            edges.due("slots 5 .. 8, NOISE in " + slot, cell.air(0, 4), slot >= 5 && slot <= 8 ? 0 : 1);
        }
        WirelessCell late = joining(5);
        late.go(8);
        late.noise(8, 8);
        late.go(1);
        edges.due("told ahead of its last slot", late.air(0, 4), 0);
        WirelessCell over = joining(5);
        over.go(9);
        over.noise(9, 9);
        over.go(1);
        edges.due("told behind it", over.air(0, 4), 1);
    }

    // ---- behind a FRAME

    private void waitsFromNowOn() {
        WirelessCell cell = joining();
        cell.go(3);
        edges.due("slot 3 is its last one", cell.node(1, 6), 0);
        cell.go(1);
        edges.due("from slot 3 on", cell.node(1, 6), 1);
        WirelessCell spoiled = joining();
        spoiled.noise(0, 0);
        spoiled.go(4);
        edges.due("also if it was not CLEAN", spoiled.node(1, 6), 1);
        cell.go(4);
        edges.due("behind an ACK nobody waits", cell.node(0, 6), 0);
    }

    private void slotAfterNext() {
        WirelessCell cell = Cells.keyed(1);
        cell.size(16);
        int from = cell.count(0);
        Cells.say(cell, 1, 0, 20);
        int[] slots = {0, 5, 9, 14};
        edges.due("two parts and two ACKS", cell.go(17), 4);
        for (int i = 0; i < 4; i++) {
            edges.due("FRAME " + i, cell.air(3 - i, 0) - from, slots[i]);
        }
        edges.due("a part's slots", cell.air(3, 3), 4);
        edges.due("an ACK's slots", cell.air(2, 3), 3);
    }

    private void ackForWaiting() {
        WirelessCell waits = new WirelessCell();
        waits.noise(0, 0);
        waits.join(1);
        put(waits, 4, Others.ack(1));
        waits.go(6);
        edges.due("ahead of its last slot", waits.node(1, 6), 1);
        waits.go(1);
        edges.due("it waits no more", waits.node(1, 6), 0);
        edges.due("DONE", waits.node(1, 2), 0);
        WirelessCell idle = joining(7);
        put(idle, 0, Others.ack(1));
        idle.go(10);
        edges.due("one that waits for none: its MESSAGE stays", idle.node(1, 2), 1);
        WirelessCell other = new WirelessCell();
        other.noise(0, 0);
        other.join(1);
        put(other, 4, Others.ack(2));
        other.go(7);
        edges.due("an ACK for another one", other.node(1, 6), 1);
        WirelessCell empty = new WirelessCell();
        put(empty, 0, Others.ack(1));
        edges.due("one that has nothing", empty.go(30), 1);
    }

    private void partsLeft() {
        WirelessCell cell = Cells.keyed(1);
        cell.size(16);
        cell.limit(2);
        int from = cell.count(0);
        cell.noise(from, from);
        Cells.say(cell, 1, 0, 9);
        cell.go(8);
        edges.due("the first part FAILED once", cell.node(1, 5), 1);
        cell.go(8);
        edges.due("its ACK: tries are 0", cell.node(1, 5), 0);
        edges.due("a part is left", cell.node(1, 2), 1);
        cell.noise(from + 17, from + 17);
        edges.due("slot 16", cell.go(1), 0);
        edges.due("the next part is due in slot 17", cell.go(1), 1);
        edges.due("its number", cell.air(0, 10 + 22) % 16, 1);
        cell.go(8);
        edges.due("it FAILED once, so the MESSAGE is not GIVEN UP", cell.ended(0), 0);
        cell.go(30);
        edges.due("DONE", cell.ended(0), 1);
    }

    private void doneBehindLastPart() {
        int[][] cases = {{8, 1}, {9, 2}, {24, 2}, {25, 3}};
        for (int[] each : cases) {
            WirelessCell cell = Cells.keyed(1);
            cell.size(16);
            Cells.say(cell, 1, 0, each[0]);
            int began = 0;
            for (int i = 0; i < 60 && cell.ended(0) == 0; i++) {
                began += cell.go(1);
            }
            edges.due("parts and ACKS of " + each[0] + " bytes said", began, 2 * each[1]);
            edges.due("DONE", cell.ended(0), 1);
            edges.due("out of the QUEUE", cell.node(1, 2), 0);
        }
    }

    // ---- FAILED

    private void fourSlots() {
        WirelessCell cell = new WirelessCell();
        cell.noise(3, 3);
        cell.join(1);
        cell.go(7);
        edges.due("its FRAME ended in 3, three slots went", cell.count(7), 0);
        edges.due("it waits", cell.node(1, 6), 1);
        cell.go(1);
        edges.due("four slots went", cell.count(7), 1);
        edges.due("it waits no more", cell.node(1, 6), 0);
        edges.due("tries", cell.node(1, 5), 1);
        for (int slot = 4; slot <= 6; slot++) {
            WirelessCell forged = new WirelessCell();
            forged.noise(3, 3);
            forged.join(1);
            put(forged, slot, Others.ack(1));
            forged.go(9);
            edges.due("an ACK that ends in " + (slot + 2), forged.count(7), slot == 6 ? 1 : 0);
        }
    }

    private void limits() {
        int[] limits = {1, 2, 14, 15, 4};
        for (int limit : limits) {
            WirelessCell cell = new WirelessCell();
            if (limit != 4) {
                cell.limit(limit);
            }
            cell.noise(0, 999);
            cell.join(1);
            cell.go(8 * limit - 1);
            edges.due("ahead of the last of " + limit, cell.node(1, 2), 1);
            edges.due("tries", cell.node(1, 5), limit - 1);
            cell.go(1);
            edges.due("GIVEN UP", cell.node(1, 2), 0);
            edges.due("FAILED", cell.count(7), limit);
            edges.due("no more", cell.go(100), 0);
        }
        WirelessCell lower = new WirelessCell();
        lower.limit(15);
        lower.noise(0, 999);
        lower.join(1);
        lower.go(24);
        edges.due("tries", lower.node(1, 5), 3);
        lower.limit(2);
        edges.due("a lower LIMIT does nothing by itself", lower.node(1, 2), 1);
        lower.go(8);
        edges.due("4 is more than 2", lower.node(1, 2), 0);
    }

    private void contention() {
        WirelessCell cell = new WirelessCell();
        cell.limit(15);
        cell.noise(0, 999);
        cell.join(1);
        int[] want = {7, 15, 31, 63, 127, 127, 127, 127};
        for (int i = 0; i < want.length; i++) {
            edges.due("CW behind " + i, cell.node(1, 4), want[i]);
            cell.go(8);
        }
        WirelessCell last = new WirelessCell();
        last.limit(2);
        last.noise(0, 999);
        last.join(1);
        last.go(15);
        edges.due("CW behind one", last.node(1, 4), 15);
        last.go(1);
        edges.due("else: GIVEN UP leaves CW 7", last.node(1, 4), 7);
    }

    /** BACKOFF as it was drawn: in the slot in which the FRAME FAILED others send, so that it isn't counted down. */
    private static int drawnBehindFailure(int draw) {
        WirelessCell cell = new WirelessCell();
        cell.noise(0, 0);
        cell.join(1);
        cell.draw(draw);
        put(cell, 7, Cells.said(1));
        cell.go(8);
        return cell.node(1, 3);
    }

    private void backoffByBits() {
        int[] draws = {0, 1, 7, 8, 15, 16, 17, 64, 112, 127};
        for (int v : draws) {
            edges.due("DRAW " + v + " and CW 15", drawnBehindFailure(v), v & 15);
            edges.due("DRAW " + v + " and CW 7", joining(v).node(1, 3), v & 7);
        }
    }

    private void sameFrame() {
        WirelessCell cell = Cells.keyed(1);
        int from = cell.count(0);
        cell.noise(from, from + 20);
        Cells.say(cell, 1, 0, 5);
        byte[] first = null;
        for (int i = 0; i < 3; i++) {
            cell.go(1);
            byte[] frame = Cells.frame(cell, 0);
            edges.due("its second byte", frame[1], i == 0 ? 65 : 73);
            first = first == null ? frame : first;
            edges.due("the same, sent again or not", Others.altered(frame, 1, i == 0 ? 0 : 8),
                    Others.altered(first, 1, 0));
            edges.due("FCS", frame, Reference.withFcs(Arrays.copyOf(frame, frame.length - 4)));
            cell.size(16);
            cell.nonce(1, 1, 1, 1, 1);
            cell.go(7);
        }
        cell.go(10);
        edges.due("DONE, in noise no more", cell.ended(0), 1);
        edges.due("DELIVERED", Cells.delivered(cell, 0, 0), Cells.said(5));
        Cells.say(cell, 1, 0, 5);
        cell.go(5);
        edges.due("the next one is not sent again", cell.air(0, 10 + 1), 65);
    }

    // ---- DONE, GIVEN UP, DRAWS

    private void outOfQueue() {
        WirelessCell done = new WirelessCell();
        done.limit(15);
        done.noise(0, 19);
        done.join(1);
        done.go(24);
        edges.due("CW behind three", done.node(1, 4), 63);
        done.go(8);
        edges.due("DONE: out of the QUEUE", done.node(1, 2), 0);
        edges.due("tries", done.node(1, 5), 0);
        edges.due("CW", done.node(1, 4), 7);
        WirelessCell given = new WirelessCell();
        given.noise(0, 99);
        given.join(1);
        given.go(31);
        edges.due("CW behind three", given.node(1, 4), 63);
        edges.due("tries", given.node(1, 5), 3);
        given.go(1);
        edges.due("GIVEN UP: out of the QUEUE", given.node(1, 2), 0);
        edges.due("tries", given.node(1, 5), 0);
        edges.due("CW", given.node(1, 4), 7);
    }

    private void anotherOne() {
        WirelessCell two = joining();
        two.leave(1, 3);
        two.go(4);
        two.draw(13);
        two.draw(14);
        two.go(4);
        edges.due("DONE: the next DRAW and 7", two.node(1, 3), 5);
        edges.due("one was taken", two.count(3), 1);
        WirelessCell one = joining();
        one.go(4);
        one.draw(13);
        one.go(4);
        edges.due("no other one: none is taken", one.count(3), 1);
        edges.due("BACKOFF", one.node(1, 3), 0);
        WirelessCell given = new WirelessCell();
        given.limit(1);
        given.noise(0, 0);
        given.join(1);
        given.leave(1, 3);
        given.draw(13);
        put(given, 7, Cells.said(1));
        given.go(8);
        edges.due("GIVEN UP: the next DRAW and 7", given.node(1, 3), 5);
        WirelessCell keyless = Cells.keyed(1);
        keyless.submit(1, 0);
        keyless.leave(1, 3);
        keyless.draw(13);
        keyless.go(1);
        edges.due("GIVEN UP without a key: the next DRAW and 7, counted down once", keyless.node(1, 3), 4);
    }

    private void whereNothingWas() {
        WirelessCell cell = joining(13, 14);
        edges.due("nothing was: the next DRAW and 7", cell.node(1, 3), 5);
        edges.due("one is left", cell.count(3), 1);
        cell.leave(1, 3);
        edges.due("something was: none is taken", cell.count(3), 1);
        edges.due("BACKOFF stays", cell.node(1, 3), 5);
        WirelessCell lost = joining(13);
        for (int i = 0; i < 11; i++) {
            lost.leave(1, 3);
        }
        lost.draw(6);
        lost.leave(1, 3);
        edges.due("what is lost takes none", lost.count(3), 1);
        WirelessCell notKeyed = new WirelessCell();
        notKeyed.draw(6);
        notKeyed.submit(1, 0);
        edges.due("what is not QUEUED takes none", notKeyed.count(3), 1);
    }

    private void drawsInOrder() {
        WirelessCell cell = new WirelessCell();
        for (int v = 0; v < 8; v++) {
            cell.draw(v * 17);
        }
        for (int k = 1; k <= 8; k++) {
            cell.join(k);
            edges.due("of station " + k, cell.node(k, 3), k - 1);
        }
        WirelessCell two = new WirelessCell();
        two.join(1);
        two.join(8);
        two.draw(3);
        two.draw(9);
        put(two, 7, Cells.said(1));
        two.go(8);
        edges.due("both FAILED", two.count(7), 2);
        edges.due("nodes in order", two.node(1, 3), 3);
        edges.due("nodes in order", two.node(8, 3), 9);
        WirelessCell many = new WirelessCell();
        for (int i = 0; i < 200; i++) {
            many.draw(i % 7);
        }
        for (int i = 0; i < 40; i++) {
            many.leave(8, 3);
            edges.due("the " + i + "th", many.node(8, 3), i % 7);
            many.go(20);
            many.draw(7);
        }
    }

    private void noneLeft() {
        WirelessCell cell = joining(7);
        cell.join(2);
        edges.due("the last one", cell.node(1, 3), 7);
        edges.due("behind it", cell.node(2, 3), 0);
        edges.due("none is left", cell.count(3), 0);
        WirelessCell failed = new WirelessCell();
        failed.noise(0, 0);
        failed.join(1);
        failed.go(8);
        edges.due("FAILED", failed.node(1, 5), 1);
        edges.due("BACKOFF", failed.node(1, 3), 0);
        edges.due("it begins in the next slot", failed.go(1), 1);
    }

    private void countDown() {
        WirelessCell cell = joining(2);
        put(cell, 0, Cells.said(1));
        int[] want = {2, 2, 2, 2, 2, 2, 1, 0, 0};
        for (int slot = 0; slot < want.length; slot++) {
            cell.go(1);
            edges.due("others have 0 .. 2, behind slot " + slot, cell.node(1, 3), want[slot]);
        }
        edges.due("it began in slot 8", cell.air(0, 0), 8);
        WirelessCell broken = joining(3);
        put(broken, 2, Cells.said(1));
        int[] left = {2, 1, 1, 1, 1, 1, 1, 1, 0, 0};
        for (int slot = 0; slot < left.length; slot++) {
            broken.go(1);
            edges.due("others have 2 .. 4, behind slot " + slot, broken.node(1, 3), left[slot]);
        }
        edges.due("it began in slot 9", broken.air(0, 0), 9);
        WirelessCell noisy = joining(2);
        noisy.noise(0, 9);
        noisy.go(2);
        edges.due("NOISE does not hinder it", noisy.node(1, 3), 0);
    }

    // ---- SUBMISSIONS

    private void doneBySayer() {
        WirelessCell cell = Cells.keyed(2);
        Cells.say(cell, 1, 2, 1);
        edges.due("QUEUED: under way", cell.ended(0), 0);
        int slots = 0;
        while (cell.ended(0) == 0 && slots < 60) {
            cell.go(1);
            slots++;
        }
        edges.due("DONE", cell.ended(0), 1);
        edges.due("in the slot in which the ACK ends: four, two less one, three", slots, 4 + 1 + 3);
        edges.due("the other one has not got it yet", cell.node(2, 8), 0);
        cell.noise(cell.count(0), cell.count(0) + 100);
        cell.go(200);
        edges.due("it is not passed on", cell.node(2, 8), 0);
        edges.due("DONE all the same", cell.ended(0), 1);
    }

    private void givenUpByTries() {
        WirelessCell cell = Cells.keyed(1);
        cell.noise(cell.count(0), cell.count(0) + 99);
        cell.submit(1, 0);
        cell.go(31);
        edges.due("behind three tries", cell.ended(0), 0);
        cell.go(1);
        edges.due("behind four", cell.ended(0), 2);
        WirelessCell second = Cells.keyed(1);
        second.size(16);
        second.limit(1);
        second.noise(second.count(0) + 9, second.count(0) + 9);
        Cells.say(second, 1, 0, 20);
        second.go(30);
        edges.due("the second part's", second.ended(0), 2);
    }

    private void lostSubmission() {
        WirelessCell cell = Cells.keyed(1);
        for (int i = 0; i < 13; i++) {
            cell.submit(0, 1);
            edges.due("the " + i + "th", cell.ended(i), i < 12 ? 0 : 3);
        }
        cell.go(8);
        cell.submit(0, 1);
        edges.due("one is DONE, so there is room", cell.ended(13), 0);
        cell.submit(0, 1);
        edges.due("but for one", cell.ended(14), 3);
    }

    private void notKeyed() {
        for (int state = 1; state <= 4; state++) {
            WirelessCell station = Others.atStation(state).cell;
            station.submit(1, 0);
            edges.due("a station, STATE " + state, station.ended(0), state == 4 ? 0 : 4);
            station.submit(1, 2);
            edges.due("to a station, STATE " + state, station.ended(1), state == 4 ? 0 : 4);
            station.submit(0, 1);
            edges.due("the AP, which knows nothing of it", station.ended(2), 4);
            WirelessCell ap = Others.atAp(state).cell;
            ap.submit(0, 1);
            edges.due("the AP, STATE " + state, ap.ended(0), state == 4 ? 0 : 4);
            ap.submit(1, 0);
            edges.due("the station itself", ap.ended(1), 4);
            ap.submit(0, 2);
            edges.due("the AP to another station", ap.ended(2), 4);
        }
        WirelessCell full = Cells.keyed(1);
        for (int i = 0; i < 12; i++) {
            full.submit(1, 0);
        }
        full.join(1);
        full.submit(1, 0);
        edges.due("not keyed, and the QUEUE is full", full.ended(12), 4);
    }

    private void givenUpWithoutKey() {
        WirelessCell cell = Cells.keyed(1);
        cell.submit(1, 0);
        cell.submit(1, 0);
        cell.leave(1, 3);
        cell.go(1);
        edges.due("the first", cell.ended(0), 5);
        edges.due("the second is behind it", cell.ended(1), 0);
        cell.go(1);
        edges.due("the second", cell.ended(1), 5);
        edges.due("END is sent", cell.go(1), 1);
        WirelessCell anew = Cells.keyed(1);
        anew.draw(7);
        anew.submit(0, 1);
        new Others(anew).put(Reference.withFcs(Reference.join(Reference.header(0, 0, 0, 1, 0, 16 * 99), Others.ASKS)));
        edges.due("the AP has it joined", anew.node(1, 1), 3);
        anew.go(30);
        edges.due("the AP's", anew.ended(0), 5);
    }
}
