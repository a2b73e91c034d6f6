import java.util.Arrays;

/** 'Terms' IV: STATES, of a station by itself and as the AP has it. */
final class EdgesOfStates {
    private static final byte[] OTHER_NONCE = Reference.longs(9, 8, 7, 6);

    private final Edges edges;

    EdgesOfStates(Edges edges) {
        this.edges = edges;
    }

    void all() {
        edges.sentence("IV", "1 none, 2 known, 3 joined, 4 keyed (1 at first).", this::atFirst);
        edges.sentence("IV", "whose A2 is a station's ADDRESS (of a station: the AP's), else nothing",
                this::otherSpeakers);
        edges.sentence("IV", "AUTH of step 1: that station is known, without key; AUTH of step 2 is QUEUED.",
                this::authAtAp);
        edges.sentence("IV", "ASK: if it is known or more: joined, without key; GRANT and HAND 1 are QUEUED; else END 6 "
                + "is.", this::askAtAp);
        edges.sentence("IV", "END: it is none, without key.", this::endAtAp);
        edges.sentence("IV", "DATA to the AP that is not sealed: if it is joined or keyed: a HAND 2:", this::hand2);
        edges.sentence("IV", "if its MIC is right, that PTK is kept as TRIED, and HAND 3 is QUEUED", this::hand2Wrong);
        edges.sentence("IV", "a HAND 4: if there is a TRIED one and the MIC is right by it: keyed by its TK.",
                this::hand4);
        edges.sentence("IV", "Sealed DATA to the AP: if it is not keyed: END 7 is QUEUED", this::sealedAtAp);
        edges.sentence("IV", "AUTH of step 2, if it has asked to join and is none: known; ASK is QUEUED.",
                this::authAtStation);
        edges.sentence("IV", "GRANT, if it is known: joined.", this::grantAtStation);
        edges.sentence("IV", "END: none, without key.", this::endAtStation);
        edges.sentence("IV", "DATA from the AP that is not sealed: if it is joined or keyed: a HAND 1:", this::hand1);
        edges.sentence("IV", "the PTK by its SECRET, its NONCE and that NONCE is kept as TRIED; HAND 2 is QUEUED",
                this::hand1Anew);
        edges.sentence("IV", "a HAND 3: if there is a TRIED one, for that NONCE, and the MIC is right by it: keyed by "
                + "its TK; HAND 4 is QUEUED.", this::hand3);
        edges.sentence("IV", "Sealed DATA from the AP, if it is keyed: V.", this::sealedAtStation);
        edges.sentence("IV", "Keyed by a TK (also anew): PN taken 0", this::takenAnew);
        edges.sentence("IV", "the next PN to seal by 1", this::sealedAnew);
        edges.sentence("IV", "no MESSAGE of that side begun.", this::begunAnew);
        edges.sentence("IV", "Without key: these are gone", this::withoutKey);
        edges.sentence("IV", "and TRIED.", this::withoutTried);
        edges.sentence("IV", "HANDS are of unsealed DATA with part number 0 and no 4", this::handsAreWhole);
        edges.sentence("IV", "the MESSAGE just as long as told.", this::handsAreAsLong);
        edges.sentence("IV", "Other BODIES than told,", this::otherBodies);
        edges.sentence("IV", "DATA with 1 and 2, or neither, or that goes the other way, do nothing.", this::otherWays);
    }

    private void atFirst() {
        WirelessCell cell = new WirelessCell();
        for (int k = 1; k <= 8; k++) {
            edges.due("station " + k, cell.node(k, 0), 1);
            edges.due("station " + k + " as the AP has it", cell.node(k, 1), 1);
        }
        for (int state = 1; state <= 4; state++) {
            edges.due("brought to " + state, Others.atStation(state).stateAtStation(), state);
            edges.due("brought to " + state + " as the AP has it", Others.atAp(state).stateAtAp(), state);
        }
    }

    private void otherSpeakers() {
        Others ap = Others.atAp(4);
        int[] noStations = {0, 9, 255};
        for (int k : noStations) {
            edges.due("the AP: " + k, ap.acks(ap.frame(Others.END, 0, 0, k, Others.ENDS)), 1);
            edges.due("the AP: nothing", ap.stateAtAp(), 4);
        }
        edges.due("the AP: another station's", ap.acks(ap.frame(Others.END, 0, 0, 2, Others.ENDS)), 1);
        edges.due("is not this one's", ap.stateAtAp(), 4);
        edges.due("the AP: this station's", ap.acks(ap.frame(Others.END, 0, 0, 1, Others.ENDS)), 1);
        edges.due("none", ap.stateAtAp(), 1);
        Others station = Others.atStation(4);
        int[] others = {1, 2, 8, 9, 255};
        for (int k : others) {
            edges.due("a station: " + k, station.acks(station.frame(Others.END, 0, 1, k, Others.ENDS)), 1);
            edges.due("a station: nothing", station.stateAtStation(), 4);
        }
        edges.due("a station: the AP's", station.acks(station.frame(Others.END, 0, 1, 0, Others.ENDS)), 1);
        edges.due("none", station.stateAtStation(), 1);
    }

    // ---- the AP

    private void authAtAp() {
        for (int state = 1; state <= 4; state++) {
            Others others = Others.atAp(state);
            others.put(others.frame(Others.AUTH, 0, 0, 1, Others.AUTH_1));
            edges.due("known, from " + state, others.stateAtAp(), 2);
            edges.due("without key", others.cell.key(1, 1, 0), -1);
            dueNext(others, 0, "AUTH of step 2", 176, 0, Others.AUTH_2);
            edges.due("and no more", others.cell.node(0, 2), 1);
        }
        Others two = Others.atAp(3);
        two.put(two.frame(Others.AUTH, 0, 0, 1, Others.AUTH_2));
        edges.due("step 2 is not for the AP", two.stateAtAp(), 3);
    }

    /** The first FRAME that a node, which has taken one just now, begins behind its ACK. */
    private void dueNext(Others others, int node, String what, int kind, int flags, byte[] body) {
        others.cell.go(8);
        byte[] frame = Cells.frame(others.cell, 0);
        edges.due(what + ": its sender", others.cell.air(0, 1), node);
        edges.due(what + ": its kind", frame[0] & 255, kind);
        edges.due(what + ": its second byte", frame[1], flags);
        edges.due(what, Arrays.copyOfRange(frame, 24, frame.length - 4), body);
    }

    private void askAtAp() {
        for (int state = 1; state <= 4; state++) {
            Others others = Others.atAp(state);
            int before = others.cell.node(0, 7);
            others.put(others.frame(Others.ASK, 0, 0, 1, Others.ASKS));
            edges.due("from " + state, others.stateAtAp(), state == 1 ? 1 : 3);
            edges.due("without key", others.cell.key(1, 1, 0), -1);
            edges.due("how many are QUEUED", others.cell.node(0, 7) - before, state == 1 ? 1 : 2);
            dueNext(others, 0, "the first from " + state, state == 1 ? 192 : 16, 0,
                    state == 1 ? Reference.bytes(6, 0) : Others.GRANTS);
            if (state > 1) {
                others.cell.go(11);
                edges.due("HAND 1", Arrays.copyOfRange(Cells.frame(others.cell, 0), 24, 65), Others.rightHand(1));
            }
        }
    }

    private void endAtAp() {
        int[] reasons = {0, 3, 255};
        for (int reason : reasons) {
            for (int state = 1; state <= 4; state++) {
                Others others = Others.atAp(state);
                others.put(others.frame(Others.END, 0, 0, 1, Reference.bytes(reason, 0)));
                edges.due("END " + reason + ", from " + state, others.stateAtAp(), 1);
                edges.due("without key", others.cell.key(1, 1, 0), -1);
                edges.due("nothing is QUEUED", others.cell.node(0, 2), 0);
            }
        }
    }

    private void hand2() {
        for (int state = 1; state <= 4; state++) {
            Others others = Others.atAp(state);
            others.put(others.frame(Others.DATA, 1, 0, 1, Others.rightHand(2)));
            edges.due("QUEUED, STATE " + state, others.cell.node(0, 2), state >= 3 ? 1 : 0);
            edges.due("the STATE stays", others.stateAtAp(), state);
            if (state >= 3) {
                dueNext(others, 0, "HAND 3", 8, 2, Others.rightHand(3));
            }
        }
    }

    private void hand2Wrong() {
        byte[] otherPtk = Reference.ptk(Cells.secret(1), 1, Cells.nonce(0), OTHER_NONCE);
        Others others = ready(4);
        byte[] wrong = Others.hand(2, OTHER_NONCE, otherPtk);
        wrong[56] ^= 1;
        others.put(others.frame(Others.DATA, 1, 0, 1, wrong));
        edges.due("a wrong MIC: nothing is QUEUED", others.cell.node(0, 2), 0);
        others.cell.go(6);
        others.put(others.frame(Others.DATA, 1, 0, 1, Others.hand(4, new byte[0], otherPtk)));
        edges.due("its PTK is not kept", others.stateAtAp(), 3);
        others.cell.go(6);
        others.put(others.frame(Others.DATA, 1, 0, 1, Others.rightHand(4)));
        edges.due("the one ahead is TRIED still", others.stateAtAp(), 4);
        Others anew = ready(4);
        anew.putAndLose(anew.frame(Others.DATA, 1, 0, 1, Others.hand(2, OTHER_NONCE, otherPtk)));
        anew.put(anew.frame(Others.DATA, 1, 0, 1, Others.rightHand(4)));
        edges.due("a right MIC: the one ahead is not TRIED any more", anew.stateAtAp(), 3);
        anew.cell.go(6);
        anew.put(anew.frame(Others.DATA, 1, 0, 1, Others.hand(4, new byte[0], otherPtk)));
        edges.due("its PTK is TRIED", Cells.key(anew.cell, 1, 1), Reference.tk(otherPtk));
    }

    private void hand4() {
        Others none = Others.atAp(3);
        none.put(none.frame(Others.DATA, 1, 0, 1, Others.rightHand(4)));
        edges.due("none is TRIED", none.stateAtAp(), 3);
        none.cell.go(6);
        none.put(none.frame(Others.DATA, 1, 0, 1, Others.hand(4, new byte[0], new byte[48])));
        edges.due("none is TRIED, not even one of 0", none.stateAtAp(), 3);
        Others others = ready(4);
        for (int i = 0; i < 16; i++) {
            byte[] wrong = Others.rightHand(4);
            wrong[9 + i] ^= 16;
            others.put(others.frame(Others.DATA, 1, 0, 1, wrong));
            edges.due("byte " + i + " of the MIC is wrong", others.stateAtAp(), 3);
            others.cell.go(6);
        }
        others.put(others.frame(Others.DATA, 1, 0, 1, Others.rightHand(4)));
        edges.due("the MIC is right", others.stateAtAp(), 4);
        edges.due("its TK", Cells.key(others.cell, 1, 1), Cells.tk(1));
        edges.due("nothing is QUEUED", others.cell.node(0, 2), 0);
    }

    private void sealedAtAp() {
        for (int state = 1; state <= 4; state++) {
            Others others = Others.atAp(state);
            others.put(Reference.sealedFrame(Reference.header(8, 65, 0, 1, 0, 16 * 50), 1, Cells.tk(1),
                    Others.said(1)));
            edges.due("QUEUED, STATE " + state, others.cell.node(0, 2), state < 4 ? 1 : 0);
            edges.due("DELIVERED, STATE " + state, others.cell.node(0, 8), state < 4 ? 0 : 1);
            edges.due("none is dropped", others.cell.node(0, 10), 0);
            edges.due("the STATE stays", others.stateAtAp(), state);
            if (state < 4) {
                dueNext(others, 0, "END 7", 192, 0, Reference.bytes(7, 0));
            }
        }
        Others empty = Others.atAp(3);
        empty.put(empty.frame(Others.DATA, 65, 0, 1, new byte[0]));
        edges.due("also for one with nothing behind SC", empty.cell.node(0, 2), 1);
    }

    // ---- a station

    private void authAtStation() {
        Others notAsked = new Others(new WirelessCell());
        notAsked.put(notAsked.frame(Others.AUTH, 0, 1, 0, Others.AUTH_2));
        edges.due("it has not asked", notAsked.stateAtStation(), 1);
        edges.due("nothing is QUEUED", notAsked.cell.node(1, 2), 0);
        for (int state = 1; state <= 4; state++) {
            Others others = Others.atStation(state);
            others.put(others.frame(Others.AUTH, 0, 1, 0, Others.AUTH_2));
            edges.due("from " + state, others.stateAtStation(), Math.max(2, state));
            edges.due("QUEUED", others.cell.node(1, 2), state == 1 ? 1 : 0);
            if (state == 1) {
                dueNext(others, 1, "ASK", 0, 0, Others.ASKS);
            }
        }
        Others step1 = Others.atStation(1);
        step1.put(step1.frame(Others.AUTH, 0, 1, 0, Others.AUTH_1));
        edges.due("step 1 is not for stations", step1.stateAtStation(), 1);
    }

    private void grantAtStation() {
        for (int state = 1; state <= 4; state++) {
            Others others = Others.atStation(state);
            others.put(others.frame(Others.GRANT, 0, 1, 0, Others.GRANTS));
            edges.due("from " + state, others.stateAtStation(), state == 2 ? 3 : state);
            edges.due("nothing is QUEUED", others.cell.node(1, 2), 0);
        }
    }

    private void endAtStation() {
        int[] reasons = {0, 3, 255};
        for (int reason : reasons) {
            for (int state = 1; state <= 4; state++) {
                Others others = Others.atStation(state);
                others.put(others.frame(Others.END, 0, 1, 0, Reference.bytes(reason, 0)));
                edges.due("END " + reason + ", from " + state, others.stateAtStation(), 1);
                edges.due("without key", others.cell.key(1, 0, 0), -1);
                edges.due("nothing is QUEUED", others.cell.node(1, 2), 0);
            }
        }
    }

    private void hand1() {
        for (int state = 1; state <= 4; state++) {
            Others others = Others.atStation(state);
            others.put(others.frame(Others.DATA, 2, 1, 0, Others.rightHand(1)));
            edges.due("QUEUED, STATE " + state, others.cell.node(1, 2), state >= 3 ? 1 : 0);
            edges.due("the STATE stays", others.stateAtStation(), state);
            if (state >= 3) {
                dueNext(others, 1, "HAND 2", 8, 1, Others.rightHand(2));
            }
        }
    }

    private void hand1Anew() {
        byte[] otherPtk = Reference.ptk(Cells.secret(1), 1, OTHER_NONCE, Cells.nonce(1));
        Others others = ready(3);
        others.putAndLose(others.frame(Others.DATA, 2, 1, 0, Others.hand(1, OTHER_NONCE, null)));
        others.putAndLose(others.frame(Others.DATA, 2, 1, 0, Others.rightHand(3)));
        edges.due("the one ahead is not TRIED any more", others.stateAtStation(), 3);
        others.putAndLose(others.frame(Others.DATA, 2, 1, 0, Others.hand(3, OTHER_NONCE, otherPtk)));
        edges.due("this one is", Cells.key(others.cell, 1, 0), Reference.tk(otherPtk));
        Others keyed = Others.atStation(4);
        keyed.put(keyed.frame(Others.DATA, 2, 1, 0, Others.hand(1, OTHER_NONCE, null)));
        edges.due("keyed by the one ahead, as long as no HAND 3 comes", Cells.key(keyed.cell, 1, 0), Cells.tk(1));
        dueNext(keyed, 1, "HAND 2", 8, 1, Others.hand(2, Cells.nonce(1), otherPtk));
    }

    private void hand3() {
        Others none = Others.atStation(3);
        none.put(none.frame(Others.DATA, 2, 1, 0, Others.rightHand(3)));
        edges.due("none is TRIED", none.stateAtStation(), 3);
        none.cell.go(6);
        none.put(none.frame(Others.DATA, 2, 1, 0, Others.hand(3, new byte[32], new byte[48])));
        edges.due("none is TRIED, not even one of 0", none.stateAtStation(), 3);
        Others others = ready(3);
        int[] places = {0, 31};
        for (int i : places) {
            byte[] nonce = Cells.nonce(0);
            nonce[i] ^= 1;
            others.put(others.frame(Others.DATA, 2, 1, 0, Others.hand(3, nonce, Cells.ptk(1))));
            edges.due("for another NONCE, byte " + i, others.stateAtStation(), 3);
            others.cell.go(6);
        }
        for (int i = 0; i < 16; i++) {
            byte[] wrong = Others.rightHand(3);
            wrong[41 + i] ^= 16;
            others.put(others.frame(Others.DATA, 2, 1, 0, wrong));
            edges.due("byte " + i + " of the MIC is wrong", others.stateAtStation(), 3);
            others.cell.go(6);
        }
        edges.due("nothing is QUEUED", others.cell.node(1, 2), 0);
        others.put(others.frame(Others.DATA, 2, 1, 0, Others.rightHand(3)));
        edges.due("all is right", others.stateAtStation(), 4);
        edges.due("its TK", Cells.key(others.cell, 1, 0), Cells.tk(1));
        dueNext(others, 1, "HAND 4", 8, 1, Others.rightHand(4));
    }

    private void sealedAtStation() {
        for (int state = 1; state <= 4; state++) {
            Others others = Others.atStation(state);
            others.put(Reference.sealedFrame(Reference.header(8, 66, 1, 0, 0, 16 * 50), 1, Cells.tk(1),
                    Others.said(1)));
            edges.due("QUEUED, STATE " + state, others.cell.node(1, 2), 0);
            edges.due("DELIVERED, STATE " + state, others.cell.node(1, 8), state < 4 ? 0 : 1);
            edges.due("none is dropped", others.cell.node(1, 10), 0);
            edges.due("an ACK, and nothing else is sent", others.cell.go(60), 1);
            edges.due("the STATE stays", others.stateAtStation(), state);
        }
    }

    // ---- keyed, and without key

    /** The last HAND by which a side is keyed comes once more. */
    private static void keyAnew(Others others, boolean atAp) {
        if (atAp) {
            others.putAndLose(others.frame(Others.DATA, 1, 0, 1, Others.rightHand(4)));
        } else {
            others.putAndLose(others.frame(Others.DATA, 2, 1, 0, Others.rightHand(3)));
        }
    }

    private static Others keyed(boolean atAp) {
        return atAp ? Others.atAp(4) : Others.atStation(4);
    }

    private void takenAnew() {
        for (int side = 0; side < 2; side++) {
            boolean atAp = side == 1;
            int node = 1 - side;
            int flags = atAp ? 65 : 66;
            Others others = keyed(atAp);
            others.sealBy(flags, 0, 0, 0, Others.said(1));
            edges.due("0 is not above 0, side " + side, others.cell.node(node, 8), 0);
            others.sealBy(flags, 0, 0, 1, Others.said(1));
            edges.due("1 is", others.cell.node(node, 8), 1);
            others.sealBy(flags, 0, 0, 1, Others.said(1));
            edges.due("but once", others.cell.node(node, 8), 1);
            keyAnew(others, atAp);
            others.sealBy(flags, 0, 0, 0, Others.said(1));
            edges.due("anew: 0 is not above 0", others.cell.node(node, 8), 1);
            others.sealBy(flags, 0, 0, 1, Others.said(1));
            edges.due("anew: 1 is", others.cell.node(node, 8), 2);
        }
    }

    private void sealedAnew() {
        for (int side = 0; side < 2; side++) {
            boolean atAp = side == 1;
            Others others = keyed(atAp);
            long[] want = {1, 2, 1, 2};
            for (int i = 0; i < 4; i++) {
                if (i == 2) {
                    keyAnew(others, atAp);
                }
                others.cell.submit(atAp ? 0 : 1, atAp ? 1 : 0);
                others.cell.go(5);
                edges.due("PN of " + i + ", side " + side, Reference.pn(Cells.frame(others.cell, 0)), want[i]);
                others.lose();
            }
        }
    }

    private void begunAnew() {
        for (int side = 0; side < 2; side++) {
            boolean atAp = side == 1;
            int node = 1 - side;
            int flags = atAp ? 65 : 66;
            for (int anew = 0; anew < 2; anew++) {
                Others others = keyed(atAp);
                others.sealBy(flags + 4, 0, 0, 1, Others.said(1));
                if (anew == 1) {
                    keyAnew(others, atAp);
                }
                others.sealBy(flags, 1, 0, 2, Cells.said(1));
                edges.due("DELIVERED, keyed anew " + anew, others.cell.node(node, 8), 1 - anew);
                edges.due("dropped, keyed anew " + anew, others.cell.node(node, 10), anew);
            }
        }
    }

    private void withoutKey() {
        for (int side = 0; side < 2; side++) {
            boolean atAp = side == 1;
            int node = 1 - side;
            int flags = atAp ? 65 : 66;
            Others others = keyed(atAp);
            others.sealBy(flags, 0, 0, 50, Others.said(1));
            others.sealBy(flags + 4, 0, 0, 51, Others.said(1));
            others.cell.submit(atAp ? 0 : 1, atAp ? 1 : 0);
            others.lose();
            loseKey(others, atAp);
            edges.due("the key is gone, side " + side, others.cell.key(1, side, 0), -1);
            keyOnceMore(others, atAp);
            edges.due("keyed by the same TK", Cells.key(others.cell, 1, side), Cells.tk(1));
            others.sealBy(flags, 1, 0, 60, Cells.said(1));
            edges.due("the MESSAGE begun is gone", others.cell.node(node, 10), 1);
            keyAnew(others, atAp);
            others.sealBy(flags, 0, 0, 1, Others.said(1));
            edges.due("the PN taken is gone", others.cell.node(node, 8), 2);
            others.cell.submit(atAp ? 0 : 1, atAp ? 1 : 0);
            others.cell.go(5);
            edges.due("the next PN is gone", Reference.pn(Cells.frame(others.cell, 0)), 1);
        }
    }

    private static void loseKey(Others others, boolean atAp) {
        if (atAp) {
            others.putAndLose(others.frame(Others.AUTH, 0, 0, 1, Others.AUTH_1));
            others.putAndLose(others.frame(Others.ASK, 0, 0, 1, Others.ASKS));
        } else {
            others.putAndLose(others.frame(Others.END, 0, 1, 0, Others.ENDS));
            others.putAndLose(others.frame(Others.AUTH, 0, 1, 0, Others.AUTH_2));
            others.putAndLose(others.frame(Others.GRANT, 0, 1, 0, Others.GRANTS));
        }
    }

    private static void keyOnceMore(Others others, boolean atAp) {
        if (atAp) {
            others.putAndLose(others.frame(Others.DATA, 1, 0, 1, Others.rightHand(2)));
        } else {
            others.putAndLose(others.frame(Others.DATA, 2, 1, 0, Others.rightHand(1)));
        }
        keyAnew(others, atAp);
    }

    private void withoutTried() {
        Others asked = ready(4);
        asked.putAndLose(asked.frame(Others.ASK, 0, 0, 1, Others.ASKS));
        keyAnew(asked, true);
        edges.due("the AP: behind ASK", asked.stateAtAp(), 3);
        Others known = ready(4);
        loseKey(known, true);
        keyAnew(known, true);
        edges.due("the AP: behind AUTH and ASK", known.stateAtAp(), 3);
        Others station = ready(3);
        loseKey(station, false);
        edges.due("joined again", station.stateAtStation(), 3);
        keyAnew(station, false);
        edges.due("a station: behind END", station.stateAtStation(), 3);
        Others joins = ready(3);
        joins.cell.join(1);
        joins.lose();
        joins.putAndLose(joins.frame(Others.AUTH, 0, 1, 0, Others.AUTH_2));
        joins.putAndLose(joins.frame(Others.GRANT, 0, 1, 0, Others.GRANTS));
        edges.due("joined again", joins.stateAtStation(), 3);
        keyAnew(joins, false);
        edges.due("a station: behind join", joins.stateAtStation(), 3);
    }

    // ---- what does nothing

    /** A side that is joined, at which a HAND is to do something: 3 and 4 have a TRIED one. */
    private static Others ready(int hand) {
        Others others = hand % 2 == 0 ? Others.atAp(3) : Others.atStation(3);
        if (hand == 3) {
            others.putAndLose(others.frame(Others.DATA, 2, 1, 0, Others.rightHand(1)));
        }
        if (hand == 4) {
            others.putAndLose(others.frame(Others.DATA, 1, 0, 1, Others.rightHand(2)));
        }
        return others;
    }

    /** Whether a HAND that is put as DATA with these flags, this part number and BODY, does something. */
    private static int does(int hand, int flags, int part, byte[] body) {
        Others others = ready(hand);
        boolean toAp = hand % 2 == 0;
        others.put(others.part(Others.DATA, flags, toAp ? 0 : 1, toAp ? 1 : 0, part, body));
        if (hand > 2) {
            return (toAp ? others.stateAtAp() : others.stateAtStation()) == 4 ? 1 : 0;
        }
        return others.cell.node(toAp ? 0 : 1, 2);
    }

    private static int way(int hand) {
        return hand % 2 == 0 ? 1 : 2;
    }

    private void handsAreWhole() {
        for (int hand = 1; hand <= 4; hand++) {
            byte[] right = Others.rightHand(hand);
            edges.due("HAND " + hand, does(hand, way(hand), 0, right), 1);
            edges.due("sent again, HAND " + hand, does(hand, way(hand) + 8, 0, right), 1);
            edges.due("part 1, HAND " + hand, does(hand, way(hand), 1, right), 0);
            edges.due("part 15, HAND " + hand, does(hand, way(hand), 15, right), 0);
            edges.due("with 4, HAND " + hand, does(hand, way(hand) + 4, 0, right), 0);
        }
        int[] stations = {1, 3};
        for (int hand : stations) {
            edges.due("sealed, HAND " + hand, does(hand, way(hand) + 64, 0, Others.rightHand(hand)), 0);
        }
        edges.due("sealed, HAND 4", does(4, 65, 0, Others.rightHand(4)), 0);
        Others sealed = Others.atAp(4);
        sealed.seal(65, 0, 0, Others.rightHand(2));
        edges.due("sealed, HAND 2", sealed.cell.node(0, 2), 0);
    }

    private void handsAreAsLong() {
        int[] lengths = {0, 8 + 33, 8 + 49, 8 + 49, 8 + 17};
        for (int hand = 1; hand <= 4; hand++) {
            byte[] right = Others.rightHand(hand);
            edges.due("bytes of HAND " + hand, right.length, lengths[hand]);
            edges.due("just so, HAND " + hand, does(hand, way(hand), 0, right), 1);
            int[] others = {0, 7, 8, 9, right.length - 1, right.length + 1, 272};
            for (int bytes : others) {
                edges.due(bytes + " bytes, HAND " + hand, does(hand, way(hand), 0, Arrays.copyOf(right, bytes)), 0);
            }
        }
    }

    private void otherBodies() {
        dueOnly("AUTH", Others.AUTH, true, Others.AUTH_1);
        dueOnly("AUTH", Others.AUTH, false, Others.AUTH_2);
        dueOnly("ASK", Others.ASK, true, Others.ASKS);
        dueOnly("GRANT", Others.GRANT, false, Others.GRANTS);
        for (int side = 0; side < 2; side++) {
            Others others = keyed(side == 1);
            byte[][] bodies = {new byte[0], new byte[1], new byte[3], Reference.bytes(0, 1), Reference.bytes(0, 255)};
            for (byte[] body : bodies) {
                others.put(others.frame(Others.END, 0, 1 - side, side, body));
                edges.due("END of " + Arrays.toString(body), others.cell.node(1, side), 4);
                others.cell.go(6);
            }
        }
        for (int hand = 1; hand <= 4; hand++) {
            for (int i = 0; i < 9; i++) {
                byte[] body = Others.rightHand(hand);
                body[i] ^= (byte) (i == 8 ? 16 : 1);
                edges.due("byte " + i + " of HAND " + hand, does(hand, way(hand), 0, body), 0);
            }
            int[] numbers = {0, 5, 6, 128, 255};
            for (int number : numbers) {
                byte[] body = Others.rightHand(hand);
                body[8] = (byte) number;
                edges.due("HAND " + number + ", as long as " + hand, does(hand, way(hand), 0, body), 0);
            }
        }
    }

    /** A BODY does something just as it is told, and nothing with another byte, one less, or one more. */
    private void dueOnly(String what, int kind, boolean toAp, byte[] right) {
        for (int i = 0; i < right.length; i++) {
            byte[] body = right.clone();
            body[i] ^= 16;
            edges.due(what + " with another byte " + i, changes(kind, toAp, body), 0);
        }
        edges.due(what + ", a byte less", changes(kind, toAp, Arrays.copyOf(right, right.length - 1)), 0);
        edges.due(what + ", a byte more", changes(kind, toAp, Arrays.copyOf(right, right.length + 1)), 0);
        edges.due(what + " of no bytes", changes(kind, toAp, new byte[0]), 0);
        edges.due(what + " as it is told", changes(kind, toAp, right), 1);
    }

    private static int changes(int kind, boolean toAp, byte[] body) {
        int from = kind == Others.AUTH ? 1 : 2;
        Others others = toAp ? Others.atAp(from) : Others.atStation(from);
        others.put(others.frame(kind, 0, toAp ? 0 : 1, toAp ? 1 : 0, body));
        return others.cell.node(1, toAp ? 1 : 0) - from;
    }

    private void otherWays() {
        for (int hand = 1; hand <= 4; hand++) {
            byte[] right = Others.rightHand(hand);
            edges.due("1 and 2, HAND " + hand, does(hand, 3, 0, right), 0);
            edges.due("neither, HAND " + hand, does(hand, 0, 0, right), 0);
            edges.due("the other way, HAND " + hand, does(hand, 3 - way(hand), 0, right), 0);
        }
        for (int side = 0; side < 2; side++) {
            int[] ways = {0, 3, side == 1 ? 2 : 1};
            Others others = keyed(side == 1);
            for (int way : ways) {
                byte[] header = Reference.header(8, 64 + way, 1 - side, side, 0, 16 * (50 + way));
                others.put(Reference.sealedFrame(header, 10 + way, Cells.tk(1), Others.said(1)));
                edges.due("sealed, with " + way, others.cell.node(1 - side, 8), 0);
                edges.due("nor dropped", others.cell.node(1 - side, 10), 0);
                others.cell.go(6);
            }
        }
        int[] ways = {64, 66, 67};
        Others joined = Others.atAp(3);
        for (int way : ways) {
            joined.put(joined.frame(Others.DATA, way, 0, 1, new byte[20]));
            edges.due("no END 7 for " + way, joined.cell.node(0, 2), 0);
            joined.cell.go(6);
        }
    }
}
