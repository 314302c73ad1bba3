/**
 * The sentences on envelopes and numbers that name a bound, each with a test of its own: promises 7, 8, 9, 11, 12, 16
 * and 17, and "Terms" under NUMBERS, SEALING and ENVELOPES.
 */
public final class BoundsOfEnvelopesTest {
    private static final int P = Model.P;
    private static final int LEAST = Integer.MIN_VALUE;
    private static final int MOST = Integer.MAX_VALUE;
    private static final Due DUE = new Due("BoundsOfEnvelopesTest");

    public static void main(String[] args) {
        sixtyBySending();
        sixtyByCopying();
        sixtyByBoth();
        numbersGrowFromZero();
        firstUntilItIsAnswered();
        furtherOnesHaveNoKeys();
        theActiveSessionSeals();
        sendingUsesOnlyItsOwnChain();
        anyTextIsSealed();
        twelveFields();
        anyMaskAlters();
        alteredTwiceIsItself();
        copiesAreTheirOwn();
        copiesOfCopies();
        anEnvelopeStays();
        theLatestTextOfAll();
        aFieldMayBeMinusOne();
        basesOfPower();
        exponentsOfPower();
        powerRefuses();
        wordsWrap();
        theHalvesOfALong();
        DUE.end();
    }

    /** "ENVELOPES 0, 1, .. (at most 60 for ever)"; promise 7: "NONE when .. there are 60 envelopes". */
    private static void sixtyBySending() {
        Desk desk = States.begun(DUE, 0);
        for (int e = 0; e < 60; e++) {
            desk.envelope(e, 8, -1);
            desk.send(0, 1, e, e);
            desk.envelope(e, 8, e);
        }
        desk.session(0, 1, 0, 1, 60);
        desk.send(0, 1, 60, -1);
        desk.session(0, 1, 0, 1, 60);
        desk.copy(0, -1);
        desk.envelope(59, 8, 59);
        desk.envelope(60, 8, -1);
        desk.open(0, 0);
        desk.send(1, 0, 1, -1);
        desk.session(1, 0, 0, 1, 0);
        desk.begin(0, 1, 0);
        desk.send(0, 1, 60, -1);
        desk.session(0, 1, 0, 1, 0);
    }

    /** Promise 9: "NONE when there is no envelope e, or there are 60." */
    private static void sixtyByCopying() {
        Desk desk = States.begun(DUE, 1);
        for (int e = 1; e < 60; e++) {
            desk.copy(e, -1);
            desk.copy(e - 1, e);
        }
        desk.copy(0, -1);
        desk.copy(59, -1);
        desk.copy(60, -1);
        desk.send(0, 1, 1, -1);
        desk.session(0, 1, 0, 1, 1);
        desk.envelope(60, 0, -1);
        desk.open(59, 0);
        desk.text(100);
        desk.open(0, 5);
    }

    /** "for ever": opening, altering and refusing give no room back. */
    private static void sixtyByBoth() {
        Desk desk = States.begun(DUE, 9);
        for (int e = 9; e < 59; e++) {
            desk.copy(e % 9, e);
        }
        desk.send(0, 1, 77, 59);
        for (int e = 0; e < 9; e++) {
            desk.open(e, 0);
        }
        desk.alter(0, 0, -1, true);
        desk.send(0, 1, 78, -1);
        desk.copy(0, -1);
        desk.open(59, 0);
        desk.text(77);
        desk.send(1, 0, 78, -1);
        desk.session(0, 1, 0, 1, 10);
    }

    /** Promise 7: "n is NS, which grows by 1 then, pn is PN"; "NS, NR and PN (0 at first)". */
    private static void numbersGrowFromZero() {
        Desk desk = States.begun(DUE, 0);
        for (int n = 0; n < 4; n++) {
            desk.session(0, 1, 0, 1, n);
            desk.send(0, 1, 5, n);
            desk.envelope(n, 8, n);
            desk.envelope(n, 9, 0);
        }
        desk.open(0, 0);
        desk.send(1, 0, 6, 4);
        desk.envelope(4, 8, 0);
        desk.envelope(4, 9, 0);
        desk.open(4, 0);
        desk.session(0, 1, 0, 1, 0);
        desk.session(0, 1, 0, 3, 4);
        for (int n = 0; n < 3; n++) {
            desk.send(0, 1, 7, 5 + n);
            desk.envelope(5 + n, 8, n);
            desk.envelope(5 + n, 9, 4);
            desk.session(0, 1, 0, 1, n + 1);
            desk.session(0, 1, 0, 3, 4);
        }
    }

    /** Promise 7: "a FIRST one when a began the session and it is not answered." */
    private static void firstUntilItIsAnswered() {
        Desk desk = States.begun(DUE, 2);
        desk.envelope(0, 2, 0);
        desk.open(1, 0);
        desk.open(0, 0);
        desk.send(0, 1, 1, 2);
        desk.envelope(2, 2, 0);
        desk.send(1, 0, 2, 3);
        desk.envelope(3, 2, 1);
        desk.send(0, 1, 3, 4);
        desk.envelope(4, 2, 0);
        desk.session(0, 1, 0, 7, 1);
        desk.openWith(3, 11, 0, 1);
        desk.session(0, 1, 0, 7, 1);
        desk.send(0, 1, 3, 5);
        desk.envelope(5, 2, 0);
        desk.open(3, 0);
        desk.session(0, 1, 0, 7, 0);
        desk.send(0, 1, 4, 6);
        desk.envelope(6, 2, 1);
        desk.session(1, 0, 0, 7, 0);
        desk.begin(1, 0, 0);
        desk.send(1, 0, 5, 7);
        desk.envelope(7, 2, 0);
    }

    /** "In a FURTHER one the fields 3 to 6 are 0." */
    private static void furtherOnesHaveNoKeys() {
        Desk desk = States.begun(DUE, 1);
        desk.envelope(0, 3, Model.drawn(0, 1001, 1).shown());
        desk.envelope(0, 4, Model.drawn(0, 1001, 4).shown());
        desk.envelope(0, 5, Model.drawn(1, 1002, 2).shown());
        desk.envelope(0, 6, Model.drawn(1, 1002, 4).shown());
        desk.open(0, 0);
        desk.send(1, 0, 2, 1);
        desk.open(1, 0);
        desk.send(0, 1, 3, 2);
        for (int e = 1; e < 3; e++) {
            for (int field = 3; field < 7; field++) {
                desk.envelope(e, field, 0);
            }
            desk.envelope(e, 0, 2 - e);
            desk.envelope(e, 1, e - 1);
        }
    }

    /** Promise 7: "in the active session": the first of the list, and no other. */
    private static void theActiveSessionSeals() {
        Desk desk = States.twoUsers(DUE);
        for (int i = 0; i < 3; i++) {
            desk.begin(0, 1, 0);
            desk.send(0, 1, i, i);
            desk.envelope(i, 4, desk.session(0, 1, 0, 0));
            desk.envelope(i, 7, desk.session(0, 1, 0, 6));
            desk.envelope(i, 8, 0);
        }
        for (int k = 0; k < 3; k++) {
            desk.session(0, 1, k, 1, 1);
        }
        desk.send(0, 1, 3, 3);
        desk.session(0, 1, 0, 1, 2);
        desk.session(0, 1, 1, 1, 1);
        desk.session(0, 1, 2, 1, 1);
    }

    /** Promise 7: "a message key is taken from its sending chain": nothing else of either user changes. */
    private static void sendingUsesOnlyItsOwnChain() {
        Desk desk = States.begun(DUE, 1);
        int root = desk.session(0, 1, 0, 8);
        desk.send(0, 1, 5, 1);
        desk.session(0, 1, 0, 8, root);
        desk.user(0, 3, 5);
        desk.user(1, 3, 4);
        desk.sessions(1, 0, 0);
        desk.open(1, 0);
        desk.open(0, 0);
    }

    /** Promise 7: "a text" is any long. */
    private static void anyTextIsSealed() {
        long[] texts = {0, 1, -1, Long.MIN_VALUE, Long.MAX_VALUE, 0xFFFFFFFFL, 1L << 32, -(1L << 32)};
        Desk desk = States.begun(DUE, 0);
        for (int e = 0; e < texts.length; e++) {
            desk.send(0, 1, texts[e], e);
            desk.open(e, 0);
            desk.text(texts[e]);
        }
    }

    /** "twelve FIELDS (longs)"; promises 8 and 12: "there is no such envelope or field". */
    private static void twelveFields() {
        Desk desk = States.begun(DUE, 2);
        for (int field = 0; field < 12; field++) {
            long before = desk.envelope(1, field);
            desk.alter(1, field, 1, true);
            desk.envelope(1, field, before ^ 1);
        }
        for (int field : new int[] {-1, 12, 13, LEAST, MOST}) {
            desk.envelope(0, field, -1);
            desk.alter(0, field, 1, false);
        }
        for (int e : new int[] {-1, 2, 60, LEAST, MOST}) {
            desk.envelope(e, 0, -1);
            desk.envelope(e, 11, -1);
            desk.envelope(e, -1, -1);
            desk.alter(e, 0, 1, false);
            desk.alter(e, 12, 1, false);
        }
        desk.open(0, 0);
    }

    /** Promise 8: "becomes itself ^ mask", in all 64 bits, and no other field. */
    private static void anyMaskAlters() {
        long[] masks = {0, 1, -1, 1L << 31, 1L << 32, Long.MIN_VALUE, Long.MAX_VALUE};
        for (int field = 0; field < 12; field++) {
            Desk desk = States.begun(DUE, 2);
            long[] want = new long[12];
            for (int f = 0; f < 12; f++) {
                want[f] = desk.envelope(0, f);
            }
            for (long mask : masks) {
                desk.alter(0, field, mask, true);
                want[field] ^= mask;
                for (int f = 0; f < 12; f++) {
                    desk.envelope(0, f, want[f]);
                }
            }
            desk.alter(0, field, want[field], true);
            desk.envelope(0, field, 0);
        }
    }

    private static void alteredTwiceIsItself() {
        Desk desk = States.begun(DUE, 1);
        for (int field = 0; field < 12; field++) {
            desk.alter(0, field, Long.MIN_VALUE + field, true);
        }
        desk.open(0, 4);
        for (int field = 0; field < 12; field++) {
            desk.alter(0, field, Long.MIN_VALUE + field, true);
        }
        desk.open(0, 0);
    }

    /** Promise 9: "A new envelope with the fields of e": as they are now, and its own from then on. */
    private static void copiesAreTheirOwn() {
        Desk desk = States.begun(DUE, 1);
        desk.alter(0, 10, 1L << 63, true);
        desk.copy(0, 1);
        for (int field = 0; field < 12; field++) {
            desk.envelope(1, field, desk.envelope(0, field));
        }
        desk.alter(0, 10, 1L << 63, true);
        desk.open(1, 1);
        desk.open(0, 0);
        desk.open(1, 5);
        desk.alter(1, 8, 1, true);
        desk.envelope(0, 8, 0);
        desk.envelope(1, 8, 1);
        desk.session(0, 1, 0, 1, 1);
    }

    private static void copiesOfCopies() {
        Desk desk = States.begun(DUE, 2);
        desk.copy(1, 2);
        desk.copy(2, 3);
        desk.copy(0, 4);
        desk.send(0, 1, 9, 5);
        desk.envelope(5, 8, 2);
        desk.envelope(3, 8, 1);
        desk.envelope(4, 8, 0);
        desk.open(3, 0);
        desk.text(101);
        desk.open(2, 5);
        desk.open(4, 0);
        desk.open(0, 5);
    }

    /** Promise 10: "Opens envelope e, which stays". */
    private static void anEnvelopeStays() {
        Desk desk = States.begun(DUE, 2);
        long[] before = new long[12];
        for (int field = 0; field < 12; field++) {
            before[field] = desk.envelope(1, field);
        }
        desk.open(1, 0);
        desk.open(1, 5);
        for (int field = 0; field < 12; field++) {
            desk.envelope(1, field, before[field]);
        }
        desk.copy(1, 2);
        desk.send(0, 1, 5, 3);
    }

    /** Promise 11: "The latest TEXT of all": of whichever users, by whichever way, and not that of one that fails. */
    private static void theLatestTextOfAll() {
        Desk desk = States.busy(DUE);
        desk.text(200);
        desk.open(5, 0);
        desk.text(300);
        desk.open(0, 0);
        desk.text(100);
        desk.open(6, 0);
        desk.text(400);
        desk.open(3, 0);
        desk.text(103);
        desk.open(8, 0);
        desk.text(500);
        desk.open(6, 1);
        desk.open(5, 5);
        desk.open(60, -1);
        desk.text(500);
        desk.send(0, 1, 12345, 9);
        desk.text(500);
        desk.alter(8, 10, 1, true);
        desk.text(500);
    }

    /** Promise 12: "(A field may be -1, too.)" */
    private static void aFieldMayBeMinusOne() {
        Desk desk = States.begun(DUE, 1);
        for (int field = 0; field < 12; field++) {
            desk.write(0, field, -1);
            desk.envelope(0, field, -1);
            desk.alter(0, field, 2, true);
            desk.envelope(0, field, -3);
        }
    }

    /** Promise 16: "for b .. of 0 .. P - 1". */
    private static void basesOfPower() {
        Desk desk = States.fresh(DUE);
        desk.power(0, 1, 0);
        desk.power(0, 2, 0);
        desk.power(0, P - 1, 0);
        desk.power(1, 0, 1);
        desk.power(1, P - 1, 1);
        desk.power(2, 31, 1);
        desk.power(P - 2, 1, P - 2);
        desk.power(P - 1, 1, P - 1);
        desk.power(P - 1, 2, 1);
        desk.power(P - 1, 3, P - 1);
        desk.power(P - 2, 2, 4);
    }

    /** Promise 16: "and e of 0 .. P - 1 (b^0 is 1)". */
    private static void exponentsOfPower() {
        Desk desk = States.fresh(DUE);
        for (int b : new int[] {0, 1, 2, 7, P - 2, P - 1}) {
            desk.power(b, 0, 1);
            desk.power(b, 1, b);
            desk.power(b, P - 1, b == 0 ? 0 : 1);
            desk.power(b, P - 2);
        }
        desk.power(7, P - 2, 1840700269);
        DUE.is("7 times its inverse", 7L * 1840700269L % P, 1);
        desk.power(3, (P - 1) / 2);
        desk.power(7, 1 << 30);
    }

    /** Promise 16: "NONE otherwise." */
    private static void powerRefuses() {
        Desk desk = States.fresh(DUE);
        for (int wrong : new int[] {-1, P, LEAST, LEAST + 1, -7}) {
            desk.power(wrong, 0, -1);
            desk.power(wrong, 1, -1);
            desk.power(wrong, P - 1, -1);
            desk.power(0, wrong, -1);
            desk.power(1, wrong, -1);
            desk.power(P - 1, wrong, -1);
            desk.power(wrong, wrong, -1);
        }
    }

    /** "WORDS are ints that wrap": promise 17 with words at the ends. */
    private static void wordsWrap() {
        Desk desk = States.fresh(DUE);
        int[] ends = {0, 1, -1, LEAST, MOST};
        for (int a : ends) {
            for (int b : ends) {
                int[] k = {0, 0, 1, 2, 3, 4, 5, 6};
                desk.mix(0, a, b, Model.wide(Model.mix(k, a, b, 0, 0)));
                int[] full = {-1, -1, 1, 2, 3, 4, 5, 6};
                desk.mix(-1, a, b, Model.wide(Model.mix(full, a, b, 0, 0)));
            }
        }
    }

    /** Promise 17: "(upper half of x, lower half of x, ..": a half that is negative leaves the other as it is. */
    private static void theHalvesOfALong() {
        Desk desk = States.fresh(DUE);
        int[] ends = {0, 1, -1, LEAST, MOST};
        for (int upper : ends) {
            for (int lower : ends) {
                long x = (long) upper << 32 | lower & 0xFFFFFFFFL;
                int[] key = Model.mix(new int[] {upper, lower, 1, 2, 3, 4, 5, 6}, 8, 9, 0, 0);
                DUE.is("upper half of mix(" + x + ")", desk.mix(x, 8, 9) >> 32, key[0]);
                DUE.is("lower half of mix(" + x + ")", (int) desk.mix(x, 8, 9), key[1]);
            }
        }
    }
}
