/**
 * Bounds that only rare keys reach: private keys at both ends, a public key of P - 1, two equal keys. The entropies
 * were found by a search; each test first shows that its own has the keys that it stands for.
 */
public final class RareKeysTest {
    private static final int P = Model.P;
    private static final int HALF = (P - 1) / 2;
    private static final Due DUE = new Due("RareKeysTest");

    public static void main(String[] args) {
        theLowestPrivateKey();
        theHighestPrivateKey();
        theRemainderBeginsAnew();
        anEphemeralKeyTooHigh();
        aRatchetKeyTooHigh();
        aSignedKeyOfTheEnd();
        anIdentityOfTheEnd();
        theFirstSessionWithTheBase();
        oneBaseForTwoSessions();
        theSkippedKeyThatWasKeptFirst();
        anEntryWithoutAnIdentity();
        DUE.end();
    }

    private static Desk users(long entropy0, long entropy1) {
        Desk desk = new Desk(DUE);
        desk.register(0, entropy0, true);
        desk.register(1, entropy1, true);
        return desk;
    }

    private static void draws(int u, long entropy, int n, int secret) {
        DUE.is("private key " + n + " of user " + u, Model.drawn(u, entropy, n).secret(), secret);
    }

    /** Users 0 and 1 write to each other with these entropies, and everything opens. */
    private static void converse(long entropy0, long entropy1) {
        Desk desk = users(entropy0, entropy1);
        desk.prekeys(1, 1, 1);
        desk.begin(0, 1, 0);
        desk.send(0, 1, 5, 0);
        desk.open(0, 0);
        desk.text(5);
        desk.send(1, 0, 6, 1);
        desk.open(1, 0);
        desk.text(6);
        desk.goOn();
    }

    /** "A PRIVATE key is a number 2 .. P - 2": from a word of which nothing is left but the 2. */
    private static void theLowestPrivateKey() {
        long entropy = 3235137451L;
        draws(0, entropy, 1, 2);
        users(entropy, 5).user(0, 0, 49);
        converse(entropy, 5);
    }

    private static void theHighestPrivateKey() {
        long entropy = 1863902488L;
        draws(0, entropy, 1, P - 2);
        Desk desk = users(entropy, 5);
        desk.user(0, 0, desk.power(7, P - 2));
        desk.user(0, 0, 1840700269);
        converse(entropy, 5);
    }

    /** "2 + (w >>> 1) % (P - 3)": the four highest words give the lowest private keys. */
    private static void theRemainderBeginsAnew() {
        long[] entropies = {1463546373L, 1190134420L, 1020559339L, 1029052531L};
        int[] identities = {49, 343, 2401, 16807};
        for (int i = 0; i < 4; i++) {
            draws(0, entropies[i], 1, 2 + i);
            users(entropies[i], 5).user(0, 0, identities[i]);
            converse(entropies[i], 5);
        }
    }

    /** "MALFORMED: .. field 4 is not 2 .. P - 2", also when it was sealed so: E is P - 1. */
    private static void anEphemeralKeyTooHigh() {
        long entropy = 2586585817L;
        draws(0, entropy, 4, HALF);
        Desk desk = users(entropy, 5);
        desk.begin(0, 1, 0);
        desk.session(0, 1, 0, 0, P - 1);
        desk.send(0, 1, 5, 0);
        desk.envelope(0, 4, P - 1);
        desk.unchangedBy("E is P - 1", d -> d.open(0, 4));
        desk.begin(0, 1, 0);
        desk.send(0, 1, 6, 1);
        desk.open(1, 0);
    }

    /** "MALFORMED: .. field 7 is not 2 .. P - 2", also when it was sealed so. */
    private static void aRatchetKeyTooHigh() {
        long entropy = 2798452970L;
        draws(0, entropy, 5, HALF);
        Desk desk = users(entropy, 5);
        desk.begin(0, 1, 0);
        desk.session(0, 1, 0, 6, P - 1);
        desk.send(0, 1, 5, 0);
        desk.envelope(0, 7, P - 1);
        desk.unchangedBy("the ratchet key is P - 1", d -> d.open(0, 4));
        desk.begin(0, 1, 0);
        desk.send(0, 1, 6, 1);
        desk.open(1, 0);
    }

    /** "S .. 1 .. P - 1" in an entry, and no bound for field 5 but that it is the receiver's. */
    private static void aSignedKeyOfTheEnd() {
        long entropy = 929521477L;
        draws(1, entropy, 2, HALF);
        Desk desk = users(5, entropy);
        desk.user(1, 7, P - 1);
        desk.begin(0, 1, 0);
        desk.session(0, 1, 0, 5, P - 1);
        desk.send(0, 1, 5, 0);
        desk.envelope(0, 5, P - 1);
        desk.open(0, 0);
        desk.text(5);
        desk.goOn();
    }

    /** "X .. 1 .. P - 1" in an entry, and no bound for field 3 but that it is the sender's identity. */
    private static void anIdentityOfTheEnd() {
        long entropy = 947721522L;
        draws(0, entropy, 1, HALF);
        Desk desk = users(entropy, 5);
        desk.user(0, 0, P - 1);
        desk.begin(0, 1, 0);
        desk.begin(1, 0, 0);
        desk.send(0, 1, 5, 0);
        desk.send(1, 0, 6, 1);
        desk.envelope(0, 3, P - 1);
        desk.open(0, 0);
        desk.open(1, 0);
        desk.text(6);
        desk.goOn();
    }

    /** "if one of them has field 4 as its BASE, this one is TRIED (the first such)": both users drew the same E. */
    private static void theFirstSessionWithTheBase() {
        long entropy = 2371994052L;
        draws(1, entropy, 5, Model.drawn(0, 31, 4).secret());
        Desk desk = users(31, entropy);
        desk.begin(0, 1, 0);
        desk.sendMany(0, 1, 3);
        desk.open(0, 0);
        desk.begin(1, 0, 0);
        desk.session(1, 0, 0, 0, desk.session(1, 0, 1, 0));
        desk.unchangedBy("the session with the same base stands before", d -> d.open(1, 1));
        desk.write(1, 2, 1);
        desk.open(1, 0);
        desk.session(1, 0, 0, 2, 2);
        desk.open(2, 0);
        desk.session(1, 0, 0, 2, 3);
        desk.session(1, 0, 1, 2, 0);
    }

    /** The same by one user: the second session has the BASE of the first, and its FIRST ones are tried there. */
    private static void oneBaseForTwoSessions() {
        long entropy = 480397141L;
        draws(0, entropy, 6, Model.drawn(0, entropy, 4).secret());
        Desk desk = users(entropy, 5);
        desk.begin(0, 1, 0);
        desk.send(0, 1, 5, 0);
        desk.begin(0, 1, 0);
        desk.session(0, 1, 0, 0, desk.session(0, 1, 1, 0));
        desk.send(0, 1, 6, 1);
        desk.open(0, 0);
        desk.unchangedBy("tried in the other session", d -> d.open(1, 1));
        desk.sessions(1, 0, 1);
        Desk other = users(entropy, 5);
        other.begin(0, 1, 0);
        other.send(0, 1, 5, 0);
        other.begin(0, 1, 0);
        other.send(0, 1, 6, 1);
        other.open(1, 0);
        other.open(0, 1);
    }

    /** "(1) .. (the first such that was kept counts)": user 0 draws its first ratchet pair again, two turns later. */
    private static void theSkippedKeyThatWasKeptFirst() {
        long entropy = 2214633632L;
        draws(0, entropy, 7, Model.drawn(0, entropy, 5).secret());
        Desk desk = users(entropy, 5);
        desk.begin(0, 1, 0);
        desk.sendMany(0, 1, 3);
        desk.open(2, 0);
        desk.send(1, 0, 7, 3);
        desk.open(3, 0);
        desk.send(0, 1, 8, 4);
        desk.open(4, 0);
        desk.send(1, 0, 9, 5);
        desk.open(5, 0);
        desk.sendMany(0, 1, 4);
        desk.envelope(6, 7, desk.envelope(0, 7));
        desk.open(6, 1);
        desk.open(8, 0);
        desk.text(102);
        desk.session(1, 0, 0, 4, 4);
        desk.unchangedBy("the older key stands before the newer", d -> d.open(7, 1));
        desk.open(1, 0);
        desk.text(101);
        desk.session(1, 0, 0, 4, 3);
        desk.open(7, 0);
        desk.text(101);
        desk.session(1, 0, 0, 4, 2);
        desk.open(6, 1);
        desk.open(0, 0);
        desk.open(6, 0);
        desk.session(1, 0, 0, 4, 0);
        desk.open(9, 0);
    }

    /** "An entry HOLDS if X .. 1 .. P - 1": where h is 0, an X of 0 or P would do if the range were not asked for. */
    private static void anEntryWithoutAnIdentity() {
        entryDoesNotHold(0, 1457161171, 343, 3);
        entryDoesNotHold(P, 1446555192, 7, 1);
    }

    private static void entryDoesNotHold(int x, int s, int r, int sig) {
        DUE.is("h", Model.hash(x, s, r), 0);
        DUE.is("G^s is R", Model.pow(7, sig), r);
        Desk desk = users(4, 5);
        desk.writeEntry(1, 0, x);
        desk.writeEntry(1, 1, s);
        desk.writeEntry(1, 2, r);
        desk.writeEntry(1, 3, sig);
        desk.unchangedBy("X is " + x, d -> d.begin(0, 1, 1));
    }
}
