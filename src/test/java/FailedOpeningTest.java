/**
 * "An opening that fails, changes nothing", for each way in which it can fail, at the bounds of each: the last value
 * that is taken (which fails in another way, or opens) and the first that is not. Each opening has an object of its
 * own, in the busy state, which is looked at before and after it, and used further.
 */
public final class FailedOpeningTest {
    private static final int P = Model.P;
    private static final long WIDE = 1L << 32;
    private static final int FALSE = 1;
    private static final int TOO_FAR = 2;
    private static final int NO_PREKEY = 3;
    private static final int MALFORMED = 4;
    private static final int USED = 5;
    private static final int NO_SESSION = 6;
    private static final int[] FIRST_AND_FURTHER = {5, 6};
    private static final Due DUE = new Due("FailedOpeningTest");
    /** The fields of the nine envelopes in the busy state. */
    private static final long[][] IS = readEnvelopes();

    public static void main(String[] args) {
        senders();
        receivers();
        theSameUsers();
        kinds();
        ratchetKeys();
        numbers();
        identities();
        ephemeralKeys();
        malformedComesFirst();
        signedKeys();
        oneTimeKeys();
        aBaseComesBeforePrekeys();
        noPrekeyComesBeforeTrying();
        noSession();
        newSessions();
        skippedKeys();
        farBehind();
        noReceivingChain();
        used();
        farAhead();
        moreThanTwelve();
        tags();
        whatTheFirstOneGave();
        DUE.end();
    }

    private static long[][] readEnvelopes() {
        Desk desk = States.busy(DUE);
        long[][] fields = new long[9][12];
        for (int e = 0; e < 9; e++) {
            for (int field = 0; field < 12; field++) {
                fields[e][field] = desk.envelope(e, field);
            }
        }
        return fields;
    }

    /** Opens envelope e with fields written over, given as pairs of a field's number and its value. */
    private static void fails(int e, int answer, long... written) {
        Desk desk = States.busy(DUE);
        StringBuilder what = new StringBuilder("envelope " + e + " with");
        for (int i = 0; i < written.length; i += 2) {
            what.append(" field ").append(written[i]).append(" = ").append(written[i + 1]);
            desk.write(e, (int) written[i], written[i + 1]);
        }
        desk.unchangedBy(what.toString(), d -> d.open(e, answer));
        for (int i = 0; i < written.length; i += 2) {
            desk.write(e, (int) written[i], IS[e][(int) written[i]]);
        }
        desk.goOn();
    }

    /** "MALFORMED: the sender or receiver is no registered user": user 2 is not registered. */
    private static void senders() {
        for (int e : FIRST_AND_FURTHER) {
            for (long u : new long[] {-1, 2, 4, WIDE + IS[e][0], Long.MIN_VALUE, Long.MAX_VALUE}) {
                fails(e, MALFORMED, 0, u);
            }
        }
        fails(6, NO_SESSION, 0, 3);
    }

    private static void receivers() {
        for (int e : FIRST_AND_FURTHER) {
            for (long u : new long[] {-1, 2, 4, WIDE + IS[e][1], Long.MIN_VALUE, Long.MAX_VALUE}) {
                fails(e, MALFORMED, 1, u);
            }
        }
        fails(6, NO_SESSION, 1, 3);
        fails(5, NO_PREKEY, 1, 0);
    }

    /** "they are the same". */
    private static void theSameUsers() {
        for (int e : FIRST_AND_FURTHER) {
            fails(e, MALFORMED, 0, IS[e][1]);
            fails(e, MALFORMED, 1, IS[e][0]);
        }
        fails(5, MALFORMED, 0, 1, 3, IS[1][3]);
    }

    /** "the kind is not 0 or 1". */
    private static void kinds() {
        for (int e : FIRST_AND_FURTHER) {
            for (long kind : new long[] {-1, 2, WIDE, WIDE + 1, Long.MIN_VALUE}) {
                fails(e, MALFORMED, 2, kind);
            }
        }
        fails(5, NO_SESSION, 2, 1);
        fails(6, MALFORMED, 2, 0);
    }

    /** "field 7 is not 2 .. P - 2". */
    private static void ratchetKeys() {
        for (int e : FIRST_AND_FURTHER) {
            for (long key : new long[] {1, 0, -1, P - 1, P, -IS[e][7], WIDE + IS[e][7], Long.MIN_VALUE}) {
                fails(e, MALFORMED, 7, key);
            }
            fails(e, FALSE, 7, 2);
            fails(e, FALSE, 7, P - 2);
        }
    }

    /** "n or pn is not 0 .. 1000". A new session has no receiving chain, so that its pn is not asked after. */
    private static void numbers() {
        for (int e : FIRST_AND_FURTHER) {
            for (long number : new long[] {-1, 1001, WIDE, WIDE + 1000, Long.MIN_VALUE, Long.MAX_VALUE}) {
                fails(e, MALFORMED, 8, number);
                fails(e, MALFORMED, 9, number);
            }
            fails(e, TOO_FAR, 8, 1000);
            fails(e, FALSE, 9, 0, 11, 0);
            fails(e, FALSE, 8, 0, 11, 0);
        }
        fails(5, FALSE, 9, 1000);
        fails(6, TOO_FAR, 9, 1000);
    }

    /** "or it is a FIRST one, and field 3 is not the sender's identity". */
    private static void identities() {
        long identity = IS[5][3];
        for (long key : new long[] {0, -1, identity + 1, identity - 1, WIDE + identity, IS[0][3]}) {
            fails(5, MALFORMED, 3, key);
        }
        fails(0, MALFORMED, 3, identity);
        fails(5, MALFORMED, 0, 0);
    }

    /** "or field 4 is not 2 .. P - 2". */
    private static void ephemeralKeys() {
        for (long key : new long[] {1, 0, -1, P - 1, P, -IS[5][4], WIDE + IS[5][4], Long.MIN_VALUE}) {
            fails(5, MALFORMED, 4, key);
        }
        fails(3, MALFORMED, 4, WIDE + IS[3][4]);
        fails(5, FALSE, 4, 2);
        fails(5, FALSE, 4, P - 2);
    }

    /** "OPENING an envelope answers the first of these that holds." */
    private static void malformedComesFirst() {
        fails(5, MALFORMED, 8, 1001, 5, 0);
        fails(5, MALFORMED, 8, 1001, 6, 1);
        fails(5, MALFORMED, 8, 1001, 2, 1);
        fails(3, MALFORMED, 3, 0);
        fails(2, MALFORMED, 9, -1);
        fails(6, MALFORMED, 7, 1, 8, 1000);
    }

    /** "NO PREKEY: field 5 is neither the signed nor the old signed public key of the receiver". */
    private static void signedKeys() {
        long old = IS[5][5];
        long now = IS[8][5];
        for (long key : new long[] {0, -1, old + 1, now - 1, WIDE + old, WIDE + now, IS[5][3]}) {
            fails(5, NO_PREKEY, 5, key);
            fails(8, NO_PREKEY, 5, key);
        }
        fails(5, FALSE, 5, now);
        fails(8, FALSE, 5, old);
    }

    /** "or field 6 is neither 0 nor the public key of one of its one-time pairs": that of envelope 0 is no more. */
    private static void oneTimeKeys() {
        long key = IS[5][6];
        for (long wrong : new long[] {1, -1, key + 1, key - 1, WIDE, WIDE + key, Long.MIN_VALUE, IS[0][6]}) {
            fails(5, NO_PREKEY, 6, wrong);
        }
        fails(5, FALSE, 6, 0);
        fails(5, FALSE, 6, IS[8][6]);
        fails(8, FALSE, 6, Model.drawn(1, 1002, 7).shown());
        fails(8, FALSE, 6, key);
        fails(8, NO_PREKEY, 6, Model.drawn(1, 1002, 8).shown());
    }

    /** "if one of them has field 4 as its BASE, this one is TRIED .. and what that gives is the answer. Otherwise ..." */
    private static void aBaseComesBeforePrekeys() {
        fails(2, USED, 5, 0, 6, 1);
        fails(3, FALSE, 5, 0, 11, 0);
        fails(3, NO_PREKEY, 4, IS[3][4] ^ 1);
        fails(5, FALSE, 4, IS[0][4]);
        Desk desk = States.busy(DUE);
        desk.write(3, 5, 0);
        desk.write(3, 6, -1);
        desk.open(3, 0);
        desk.text(103);
    }

    private static void noPrekeyComesBeforeTrying() {
        fails(5, NO_PREKEY, 5, 0, 11, 0);
        fails(5, NO_PREKEY, 6, 1, 8, 1000);
    }

    /** "For a FURTHER one: NO SESSION if there is none". */
    private static void noSession() {
        fails(5, NO_SESSION, 2, 1);
        fails(5, NO_SESSION, 2, 1, 5, 0, 6, 1);
        fails(6, NO_SESSION, 0, 3);
        fails(6, NO_SESSION, 0, 3, 11, 0);
        fails(4, NO_SESSION, 0, 3);
        fails(4, FALSE, 1, 3);
    }

    /** "otherwise it is forgotten, and what trying gave is the answer": no session stays, and the one-time pair does. */
    private static void newSessions() {
        fails(5, FALSE, 8, 1);
        fails(5, FALSE, 8, 8);
        fails(5, TOO_FAR, 8, 9);
        fails(5, FALSE, 9, 9);
        fails(5, FALSE, 10, ~IS[5][10]);
        fails(5, FALSE, 11, ~IS[5][11]);
        fails(8, TOO_FAR, 8, 9);
        fails(8, FALSE, 7, IS[0][7]);
    }

    /** "(1) If it has a skipped key for (field 7, n) ..: FALSE if the tag is not that of sealing with it". */
    private static void skippedKeys() {
        for (int e = 0; e < 2; e++) {
            fails(e, FALSE, 11, IS[e][11] ^ 1);
            fails(e, FALSE, 11, IS[e][11] ^ 1L << 63);
            fails(e, FALSE, 10, IS[e][10] ^ 1);
            fails(e, FALSE, 10, IS[e][10] ^ 1L << 63);
            fails(e, FALSE, 9, 1000);
            fails(e, FALSE, 8, 1 - e);
            fails(e, USED, 8, 2);
            fails(e, FALSE, 2, 1, 11, 0);
        }
    }

    /** "(2) .. pn is above NR: TOO FAR if pn - NR is above 8", NR being 3. */
    private static void farBehind() {
        fails(6, TOO_FAR, 9, 12);
        fails(6, FALSE, 9, 11);
        fails(6, FALSE, 9, 5);
        fails(6, FALSE, 9, 3);
        fails(6, FALSE, 9, 2);
        fails(6, FALSE, 9, 0);
        fails(3, FALSE, 9, 12);
    }

    /** "(3) FALSE if there is no receiving chain", before a number may be too far; user 0 began with THEIRS as here. */
    private static void noReceivingChain() {
        long theirs = IS[8][5];
        fails(4, FALSE, 7, theirs);
        fails(4, FALSE, 7, theirs, 8, 1000);
        fails(4, FALSE, 7, theirs, 9, 1000);
        fails(4, TOO_FAR, 7, theirs ^ 1, 8, 1000);
    }

    /** "USED if n is below NR", before the tag is looked at. */
    private static void used() {
        fails(2, USED);
        fails(2, USED, 11, 0);
        fails(2, USED, 2, 1);
        fails(2, FALSE, 8, 3);
        fails(3, USED, 8, 2);
        fails(3, FALSE, 8, 0);
    }

    /** "TOO FAR if n - NR is above 8". */
    private static void farAhead() {
        fails(3, TOO_FAR, 8, 12);
        fails(3, FALSE, 8, 11);
        fails(3, FALSE, 8, 4);
        fails(3, TOO_FAR, 8, 1000);
        fails(6, TOO_FAR, 8, 9);
        fails(6, FALSE, 8, 8);
    }

    /** "(4) TOO FAR if there are more than 12 skipped keys now", two being there. */
    private static void moreThanTwelve() {
        fails(6, FALSE, 9, 5, 8, 8);
        fails(6, TOO_FAR, 9, 6, 8, 8);
        fails(6, FALSE, 9, 11, 8, 2);
        fails(6, TOO_FAR, 9, 11, 8, 3);
        fails(6, TOO_FAR, 9, 11, 8, 8);
        fails(6, TOO_FAR, 9, 11, 8, 8, 11, 0);
    }

    /** "FALSE if the tag is not that of sealing with it." What is sealed with is looked at to its last bit. */
    private static void tags() {
        for (int e : new int[] {3, 5, 6, 8}) {
            fails(e, FALSE, 11, IS[e][11] ^ 1);
            fails(e, FALSE, 11, IS[e][11] ^ WIDE);
            fails(e, FALSE, 11, IS[e][11] ^ 1L << 63);
            fails(e, FALSE, 10, IS[e][10] ^ 1);
            fails(e, FALSE, 10, IS[e][10] ^ WIDE);
            fails(e, FALSE, 10, IS[e][10] ^ 1L << 63);
            fails(e, FALSE, 9, IS[e][9] ^ 1);
            fails(e, FALSE, 8, IS[e][8] + 1);
            fails(e, FALSE, 7, IS[e][7] ^ 2);
        }
    }

    /** "if none does, what the first one gave is the answer": user 0 has two sessions, and both are tried. */
    private static void whatTheFirstOneGave() {
        fails(4, FALSE);
        fails(4, TOO_FAR, 8, 9);
        fails(4, TOO_FAR, 8, 10);
        fails(4, FALSE, 8, 8);
        fails(4, FALSE, 9, 1000);
    }
}
