/**
 * The sentences on sessions and on opening that name a bound, each with a test of its own: promises 10, 14 and 15, and
 * "Terms" under SESSIONS, OPENING and TRYING. What fails is in FailedOpeningTest too, at the same bounds.
 */
public final class BoundsOfSessionsTest {
    private static final int LEAST = Integer.MIN_VALUE;
    private static final int MOST = Integer.MAX_VALUE;
    private static final Due DUE = new Due("BoundsOfSessionsTest");

    public static void main(String[] args) {
        aListForEachOtherUser();
        threeByBeginning();
        threeByOpening();
        threeByBoth();
        whatFellOutIsNoMore();
        countingSessions();
        nineThingsAboutASession();
        aBegunSession();
        anOpenedSession();
        itComesToTheFront();
        aKnownBaseKeepsTheOrder();
        aFurtherOneComesToTheFront();
        triedUpToTheFirstThatOpens();
        kindsChanged();
        theOneTimePairIsNoMore();
        theOneTimePairStays();
        theOldSignedPairIsMeant();
        skippedKeysAreUsedOnce();
        skippedBeforeTheirs();
        skippedKeysOfTwoChains();
        nothingIsTakenOver();
        eightAheadInANewSession();
        eightAheadInTheSameChain();
        eightLeftBehind();
        noneLeftBehind();
        twelveInOneChain();
        twelveFromTwoChains();
        moreOfTwoChainsAtOnce();
        usedAtTheEdge();
        numbersAfterATurn();
        answeredByOpening();
        DUE.end();
    }

    /** "A user has for each other user a list": twelve lists, none of which is another. */
    private static void aListForEachOtherUser() {
        Desk desk = States.fourUsers(DUE);
        int begun = 0;
        for (int u = 0; u < 4; u++) {
            for (int v = 0; v < 4; v++) {
                if (u != v) {
                    desk.sessions(u, v, 0);
                    desk.begin(u, v, 0);
                    desk.sessions(u, v, 1);
                    begun++;
                }
            }
        }
        DUE.is("lists", begun, 12);
        for (int u = 0; u < 4; u++) {
            for (int v = 0; v < 4; v++) {
                desk.sessions(u, v, u == v ? -1 : 1);
                desk.session(u, v, 0, 5, u == v ? -1 : desk.user(v, 1));
            }
        }
    }

    private static void basesAre(Desk desk, int u, int v, int... bases) {
        desk.sessions(u, v, bases.length);
        for (int k = 0; k < bases.length; k++) {
            desk.session(u, v, k, 0, bases[k]);
        }
        desk.session(u, v, bases.length, 0, -1);
        desk.session(u, v, -1, 0, -1);
    }

    /** The base of the session that user 0, with entropy 1001, begins as its (i + 1)th. */
    private static int base(int i) {
        return Model.drawn(0, 1001, 4 + 2 * i).shown();
    }

    /** "a list of at most three sessions .. When a fourth comes to the front, the last one is no more." */
    private static void threeByBeginning() {
        Desk desk = States.twoUsers(DUE);
        basesAre(desk, 0, 1);
        desk.begin(0, 1, 0);
        basesAre(desk, 0, 1, base(0));
        desk.begin(0, 1, 0);
        basesAre(desk, 0, 1, base(1), base(0));
        desk.begin(0, 1, 0);
        basesAre(desk, 0, 1, base(2), base(1), base(0));
        desk.begin(0, 1, 0);
        basesAre(desk, 0, 1, base(3), base(2), base(1));
        desk.begin(0, 1, 0);
        basesAre(desk, 0, 1, base(4), base(3), base(2));
        basesAre(desk, 1, 0);
    }

    private static void threeByOpening() {
        Desk desk = States.twoUsers(DUE);
        for (int i = 0; i < 5; i++) {
            desk.begin(0, 1, 0);
            desk.send(0, 1, i, i);
        }
        desk.open(0, 0);
        basesAre(desk, 1, 0, base(0));
        desk.open(1, 0);
        basesAre(desk, 1, 0, base(1), base(0));
        desk.open(2, 0);
        basesAre(desk, 1, 0, base(2), base(1), base(0));
        desk.openWith(3, 11, 0, 1);
        basesAre(desk, 1, 0, base(2), base(1), base(0));
        desk.open(3, 0);
        basesAre(desk, 1, 0, base(3), base(2), base(1));
        desk.open(4, 0);
        basesAre(desk, 1, 0, base(4), base(3), base(2));
        basesAre(desk, 0, 1, base(4), base(3), base(2));
    }

    private static void threeByBoth() {
        Desk desk = States.twoUsers(DUE);
        desk.begin(0, 1, 0);
        desk.send(0, 1, 1, 0);
        desk.begin(1, 0, 0);
        int own = desk.session(1, 0, 0, 0);
        desk.open(0, 0);
        basesAre(desk, 1, 0, base(0), own);
        desk.begin(1, 0, 0);
        int second = desk.session(1, 0, 0, 0);
        basesAre(desk, 1, 0, second, base(0), own);
        desk.begin(1, 0, 0);
        int third = desk.session(1, 0, 0, 0);
        basesAre(desk, 1, 0, third, second, base(0));
        desk.begin(0, 1, 0);
        desk.send(0, 1, 2, 1);
        desk.open(1, 0);
        basesAre(desk, 1, 0, base(1), third, second);
    }

    /** "the last one is no more": what is sealed to it opens no longer, and it does not come back by itself. */
    private static void whatFellOutIsNoMore() {
        Desk desk = States.begun(DUE, 2);
        desk.open(0, 0);
        desk.send(1, 0, 7, 2);
        for (int i = 0; i < 3; i++) {
            desk.begin(0, 1, 0);
        }
        basesAre(desk, 0, 1, base(3), base(2), base(1));
        desk.unchangedBy("an answer to what fell out", d -> d.open(2, 1));
        for (int i = 0; i < 3; i++) {
            desk.begin(1, 0, 0);
        }
        desk.sessions(1, 0, 3);
        desk.unchangedBy("a FIRST one of what fell out", d -> d.open(1, 3));
    }

    /** Promise 14: "NONE when u or v is not registered, or they are the same." */
    private static void countingSessions() {
        Desk desk = States.busy(DUE);
        desk.sessions(0, 1, 2);
        desk.sessions(1, 0, 1);
        desk.sessions(3, 1, 1);
        desk.sessions(1, 3, 0);
        desk.sessions(0, 3, 0);
        for (int u : new int[] {-1, 2, 4, LEAST, MOST}) {
            desk.sessions(u, 1, -1);
            desk.sessions(1, u, -1);
            desk.sessions(u, u, -1);
        }
        for (int u = 0; u < 4; u++) {
            desk.sessions(u, u, -1);
        }
        desk.register(2, 5, true);
        desk.sessions(2, 1, 0);
        desk.sessions(1, 2, 0);
        desk.sessions(2, 2, -1);
    }

    /** Promise 15: "NONE when there is no such session or what is not 0 .. 8." */
    private static void nineThingsAboutASession() {
        Desk desk = States.busy(DUE);
        for (int what = 0; what < 9; what++) {
            desk.session(0, 1, 0, what);
            desk.session(0, 1, 1, what);
            desk.session(0, 1, 2, what, -1);
            desk.session(0, 1, -1, what, -1);
            desk.session(1, 3, 0, what, -1);
            desk.session(0, 0, 0, what, -1);
            desk.session(0, 2, 0, what, -1);
            desk.session(2, 0, 0, what, -1);
            desk.session(-1, 0, 0, what, -1);
            desk.session(0, 4, 0, what, -1);
            desk.session(4, 0, 0, what, -1);
        }
        for (int wrong : new int[] {-1, 9, LEAST, MOST}) {
            desk.session(0, 1, 0, wrong, -1);
            desk.session(0, 1, 1, wrong, -1);
            desk.session(0, 1, wrong, 0, -1);
        }
        desk.session(0, 1, 3, 0, -1);
    }

    private static void is(Desk desk, int u, int v, int k, int... want) {
        for (int what = 0; what < want.length; what++) {
            desk.session(u, v, k, what, want[what]);
        }
    }

    /** "the numbers NS, NR and PN (0 at first)"; promise 6: "there is no receiving chain, and it is not answered". */
    private static void aBegunSession() {
        Desk desk = States.twoUsers(DUE);
        int signed = Model.drawn(1, 1002, 2).shown();
        for (int i = 0; i < 4; i++) {
            desk.begin(0, 1, 0);
            is(desk, 0, 1, 0, base(i), 0, 0, 0, 0, signed, Model.drawn(0, 1001, 5 + 2 * i).shown(), 1);
            desk.sendMany(0, 1, 2);
            desk.session(0, 1, 0, 1, 2);
        }
    }

    /** A session made by opening: "THEIRS 0, no chains" before it is tried, and a turn of the ratchet after it. */
    private static void anOpenedSession() {
        Desk desk = States.begun(DUE, 6);
        desk.open(5, 0);
        is(desk, 1, 0, 0, base(0), 0, 6, 0, 5, Model.drawn(0, 1001, 5).shown(), Model.drawn(1, 1002, 5).shown(), 0);
    }

    /** "if that opens the envelope, it comes to the front of the list". */
    private static void itComesToTheFront() {
        Desk desk = States.twoUsers(DUE);
        desk.begin(1, 0, 0);
        int own = desk.session(1, 0, 0, 0);
        desk.begin(0, 1, 0);
        desk.send(0, 1, 5, 0);
        desk.openWith(0, 10, 0, 1);
        basesAre(desk, 1, 0, own);
        desk.open(0, 0);
        basesAre(desk, 1, 0, base(0), own);
        desk.send(1, 0, 6, 1);
        desk.envelope(1, 2, 1);
    }

    /** "For a FIRST one: if one of them has field 4 as its BASE, this one is TRIED": nothing is said of the order. */
    private static void aKnownBaseKeepsTheOrder() {
        Desk desk = States.twoUsers(DUE);
        for (int i = 0; i < 3; i++) {
            desk.begin(0, 1, 0);
            desk.send(0, 1, 10 + i, 2 * i);
            desk.send(0, 1, 20 + i, 2 * i + 1);
            desk.open(2 * i, 0);
        }
        for (int i = 0; i < 3; i++) {
            int place = 2 - i;
            desk.session(1, 0, place, 2, 1);
            desk.open(2 * i + 1, 0);
            desk.text(20 + i);
            desk.session(1, 0, place, 2, 2);
            basesAre(desk, 1, 0, base(2), base(1), base(0));
        }
    }

    /** User 1 has answered in three sessions of user 0; envelope 2 * i + 1 is the answer in the session begun as i. */
    private static Desk threeAnswers() {
        Desk desk = States.twoUsers(DUE);
        for (int i = 0; i < 3; i++) {
            desk.begin(0, 1, 0);
            desk.send(0, 1, 10 + i, 2 * i);
            desk.open(2 * i, 0);
            desk.send(1, 0, 20 + i, 2 * i + 1);
        }
        basesAre(desk, 0, 1, base(2), base(1), base(0));
        return desk;
    }

    /** "up to the first that opens it, which becomes the active one (the others keep their order)". */
    private static void aFurtherOneComesToTheFront() {
        int[][] orders = {{0, 2, 1}, {1, 2, 0}, {2, 1, 0}};
        for (int i = 0; i < 3; i++) {
            Desk desk = threeAnswers();
            desk.open(2 * i + 1, 0);
            desk.text(20 + i);
            basesAre(desk, 0, 1, base(orders[i][0]), base(orders[i][1]), base(orders[i][2]));
            desk.session(0, 1, 0, 7, 0);
            desk.session(0, 1, 1, 7, 1);
            desk.session(0, 1, 2, 7, 1);
            desk.user(0, 3, 10);
            desk.send(0, 1, 30, 6);
            desk.envelope(6, 2, 1);
            desk.open(6, 0);
            desk.session(1, 0, 0, 0, base(i));
        }
    }

    /** "they are tried in the order of the list": those that fail on the way change nothing. */
    private static void triedUpToTheFirstThatOpens() {
        Desk desk = threeAnswers();
        int[] roots = {desk.session(0, 1, 0, 8), desk.session(0, 1, 1, 8)};
        desk.open(1, 0);
        for (int k = 1; k < 3; k++) {
            is(desk, 0, 1, k, base(3 - k), 1, 0, 0, 0, Model.drawn(1, 1002, 2).shown(),
                Model.drawn(0, 1001, 11 - 2 * k).shown(), 1, roots[k - 1]);
        }
        desk.open(3, 0);
        desk.open(5, 0);
        basesAre(desk, 0, 1, base(2), base(1), base(0));
        desk.open(1, 1);
        desk.open(5, 5);
        desk.user(0, 3, 12);
    }

    /** The kind and the fields 3 to 6 are not sealed: a FURTHER one made FIRST opens by its BASE, and the other way. */
    private static void kindsChanged() {
        Desk desk = threeAnswers();
        desk.write(1, 2, 0);
        desk.write(1, 3, desk.user(1, 0));
        desk.openWith(1, 4, base(1), 1);
        desk.openWith(1, 4, 12345, 3);
        desk.write(1, 4, base(0));
        desk.open(1, 0);
        desk.text(20);
        basesAre(desk, 0, 1, base(2), base(1), base(0));
        desk.session(0, 1, 2, 7, 0);
        Desk other = States.begun(DUE, 2);
        other.open(0, 0);
        other.begin(1, 0, 0);
        int own = other.session(1, 0, 0, 0);
        other.write(1, 2, 1);
        other.open(1, 0);
        other.text(101);
        basesAre(other, 1, 0, base(0), own);
    }

    /** "and the one-time pair is no more": a second session can't be made with it. */
    private static void theOneTimePairIsNoMore() {
        Desk desk = States.twoUsers(DUE);
        desk.prekeys(1, 3, 3);
        desk.begin(0, 1, 0);
        desk.begin(0, 1, 0);
        desk.send(0, 1, 5, 0);
        desk.copy(0, 1);
        desk.user(1, 4, 3);
        desk.open(0, 0);
        desk.user(1, 4, 2);
        desk.user(1, 5, 1);
        desk.openWith(1, 4, 2, 3);
        desk.openWith(1, 6, Model.drawn(1, 1002, 4).shown(), 5);
        for (int i = 0; i < 3; i++) {
            desk.begin(1, 0, 0);
        }
        desk.unchangedBy("a one-time key used before", d -> d.open(1, 3));
        desk.openWith(1, 6, 0, 1);
        desk.begin(0, 1, 0);
        desk.send(0, 1, 6, 2);
        desk.envelope(2, 6, Model.drawn(1, 1002, 6).shown());
        desk.open(2, 0);
        desk.user(1, 4, 1);
    }

    /** "otherwise it is forgotten": a FIRST one that fails uses nothing up; one without a one-time key can come twice. */
    private static void theOneTimePairStays() {
        Desk desk = States.begun(DUE, 10);
        desk.open(9, 2);
        desk.openWith(8, 11, 0, 1);
        desk.user(1, 4, 1);
        desk.user(1, 3, 4);
        desk.sessions(1, 0, 0);
        desk.open(8, 0);
        desk.user(1, 4, 0);
        Desk without = States.twoUsers(DUE);
        without.begin(0, 1, 0);
        without.prekeys(1, 2, 2);
        without.send(0, 1, 5, 0);
        without.open(0, 0);
        without.user(1, 4, 2);
        for (int i = 0; i < 3; i++) {
            without.begin(1, 0, 0);
        }
        without.open(0, 0);
        without.user(1, 4, 2);
        without.session(1, 0, 0, 0, base(0));
    }

    /** "the signed pair that was meant as its ratchet pair": the old one, if that is what field 5 says. */
    private static void theOldSignedPairIsMeant() {
        Desk desk = States.begun(DUE, 2);
        desk.rotate(1, true);
        desk.begin(0, 1, 0);
        desk.send(0, 1, 9, 2);
        desk.openWith(0, 5, desk.user(1, 1), 1);
        desk.openWith(2, 5, desk.user(1, 2), 1);
        desk.open(0, 0);
        desk.open(2, 0);
        desk.rotate(1, true);
        desk.open(1, 0);
        desk.text(101);
    }

    /** "(1) .. else that key is no more, and the envelope is opened." */
    private static void skippedKeysAreUsedOnce() {
        Desk desk = States.begun(DUE, 4);
        desk.open(3, 0);
        int[] order = {1, 0, 2};
        for (int i = 0; i < 3; i++) {
            desk.session(1, 0, 0, 4, 3 - i);
            desk.openWith(order[i], 11, 0, 1);
            desk.session(1, 0, 0, 4, 3 - i);
            desk.open(order[i], 0);
            desk.text(100 + order[i]);
            desk.session(1, 0, 0, 4, 2 - i);
            desk.session(1, 0, 0, 2, 4);
            desk.open(order[i], 5);
        }
        desk.user(1, 3, 5);
    }

    /** (1) comes before (2): a skipped key of an older chain opens, and the ratchet does not turn back. */
    private static void skippedBeforeTheirs() {
        Desk desk = States.busy(DUE);
        desk.open(6, 0);
        int theirs = desk.session(1, 0, 0, 5);
        int root = desk.session(1, 0, 0, 8);
        desk.session(1, 0, 0, 4, 3);
        for (int e : new int[] {3, 0, 1}) {
            desk.open(e, 0);
            desk.text(100 + e);
            desk.session(1, 0, 0, 5, theirs);
            desk.session(1, 0, 0, 8, root);
            desk.session(1, 0, 0, 2, 1);
        }
        desk.session(1, 0, 0, 4, 0);
        desk.open(2, 1);
        desk.user(1, 3, 11);
    }

    /** "each with a ratchet public key and a number": as one is no more, the others keep theirs. */
    private static void skippedKeysOfTwoChains() {
        for (int used = 1; used < 4; used++) {
            Desk desk = leftBehind(3, 3);
            desk.open(7, 0);
            desk.session(1, 0, 0, 4, 5);
            desk.open(used, 0);
            for (int e : new int[] {5, 6, 1, 2, 3}) {
                desk.open(e, e == used ? 1 : 0);
            }
            desk.session(1, 0, 0, 4, 0);
        }
    }

    /**
     * "the numbers NS, NR and PN (0 at first)", and "there is no receiving chain": also after a session that had them
     * all was tried in vain, and after it fell out of its list.
     */
    private static void nothingIsTakenOver() {
        Desk desk = leftBehind(2, 3);
        desk.open(5, 0);
        desk.send(1, 0, 9, 7);
        desk.open(7, 0);
        desk.sendMany(0, 1, 2);
        desk.sendMany(1, 0, 2);
        desk.open(9, 0);
        is(desk, 1, 0, 0, base(0), 0, 2, 3, 5);
        desk.sendMany(1, 0, 3);
        for (int i = 0; i < 5; i++) {
            desk.openWith(9, 8, 3, 1);
            desk.begin(1, 0, 0);
            int signed = desk.user(0, 1);
            is(desk, 1, 0, 0, desk.session(1, 0, 0, 0), 0, 0, 0, 0, signed, desk.session(1, 0, 0, 6), 1);
            long ratchet = desk.envelope(8, 7);
            desk.write(8, 2, 1);
            desk.write(8, 7, signed);
            desk.openWith(8, 8, 1000, 1);
            desk.write(8, 7, ratchet);
            desk.openWith(8, 9, 1000, 1);
        }
    }

    /** "(3) .. TOO FAR if n - NR is above 8", NR being 0 in a new session. */
    private static void eightAheadInANewSession() {
        Desk desk = States.begun(DUE, 10);
        desk.unchangedBy("nine ahead", d -> d.open(9, 2));
        desk.open(8, 0);
        desk.text(108);
        desk.session(1, 0, 0, 4, 8);
        desk.session(1, 0, 0, 2, 9);
        desk.open(9, 0);
        for (int e = 0; e < 8; e++) {
            desk.open(e, 0);
            desk.text(100 + e);
        }
        desk.session(1, 0, 0, 4, 0);
    }

    private static void eightAheadInTheSameChain() {
        Desk desk = States.begun(DUE, 11);
        desk.open(0, 0);
        desk.unchangedBy("nine ahead", d -> d.open(10, 2));
        desk.open(9, 0);
        desk.text(109);
        desk.session(1, 0, 0, 4, 8);
        desk.session(1, 0, 0, 2, 10);
        desk.open(10, 0);
        desk.session(1, 0, 0, 4, 8);
    }

    /** User 1 has opened envelope 0 and answered; user 0 has sealed n more before it saw that, and one after. */
    private static Desk leftBehind(int n, int after) {
        Desk desk = States.begun(DUE, 1 + n);
        desk.open(0, 0);
        int answer = desk.send(1, 0, 7);
        desk.open(answer, 0);
        desk.sendMany(0, 1, after);
        return desk;
    }

    /** "(2) .. TOO FAR if pn - NR is above 8, else message keys are taken .. (THEIRS, pn - 1)". */
    private static void eightLeftBehind() {
        Desk desk = leftBehind(8, 1);
        desk.envelope(10, 9, 9);
        desk.open(10, 0);
        desk.session(1, 0, 0, 4, 8);
        desk.session(1, 0, 0, 2, 1);
        for (int e = 8; e > 0; e--) {
            desk.open(e, 0);
            desk.text(100 + e);
        }
        desk.session(1, 0, 0, 4, 0);
        Desk far = leftBehind(9, 1);
        far.envelope(11, 9, 10);
        far.unchangedBy("nine left behind", d -> d.open(11, 2));
        far.open(1, 0);
        far.open(11, 0);
        far.session(1, 0, 0, 4, 8);
        far.open(9, 0);
    }

    /** "if there is a receiving chain and pn is above NR": when pn is NR, nothing is kept. */
    private static void noneLeftBehind() {
        Desk desk = leftBehind(0, 1);
        desk.envelope(2, 9, 1);
        desk.session(1, 0, 0, 2, 1);
        desk.open(2, 0);
        desk.session(1, 0, 0, 4, 0);
        desk.session(1, 0, 0, 2, 1);
        Desk one = leftBehind(1, 1);
        one.envelope(3, 9, 2);
        one.open(3, 0);
        one.session(1, 0, 0, 4, 1);
        one.open(1, 0);
        Desk late = leftBehind(2, 1);
        late.open(2, 0);
        late.session(1, 0, 0, 4, 1);
        late.open(4, 0);
        late.session(1, 0, 0, 4, 1);
        late.open(1, 0);
    }

    /** "SKIPPED keys, at most 12"; "(4) TOO FAR if there are more than 12 skipped keys now." */
    private static void twelveInOneChain() {
        Desk desk = States.begun(DUE, 17);
        desk.open(8, 0);
        desk.unchangedBy("thirteen", d -> d.open(14, 2));
        desk.open(13, 0);
        desk.session(1, 0, 0, 4, 12);
        desk.open(15, 2);
        desk.open(14, 0);
        desk.session(1, 0, 0, 4, 12);
        desk.open(16, 2);
        desk.open(7, 0);
        desk.session(1, 0, 0, 4, 11);
        desk.open(16, 0);
        desk.session(1, 0, 0, 4, 12);
    }

    private static void twelveFromTwoChains() {
        Desk desk = leftBehind(8, 7);
        int first = 10;
        desk.envelope(first, 8, 0);
        desk.unchangedBy("eight and five", d -> d.open(first + 5, 2));
        desk.open(first + 4, 0);
        desk.session(1, 0, 0, 4, 12);
        desk.open(first + 6, 2);
        desk.open(first + 5, 0);
        desk.open(first, 0);
        desk.open(first + 6, 0);
        desk.open(8, 0);
        desk.text(108);
        desk.session(1, 0, 0, 4, 10);
    }

    /** Twelve kept, and eight of each chain more: 28 at once are too many, but must be borne until they are counted. */
    private static void moreOfTwoChainsAtOnce() {
        Desk desk = States.begun(DUE, 22);
        desk.open(8, 0);
        desk.open(13, 0);
        desk.session(1, 0, 0, 4, 12);
        desk.send(1, 0, 7, 22);
        desk.open(22, 0);
        desk.sendMany(0, 1, 9);
        desk.envelope(31, 9, 22);
        desk.envelope(31, 8, 8);
        desk.unchangedBy("twenty-eight", d -> d.open(31, 2));
        desk.open(21, 2);
        for (int e = 0; e < 8; e++) {
            desk.open(e, 0);
        }
        desk.open(23, 0);
        desk.session(1, 0, 0, 4, 12);
        desk.open(21, 0);
        desk.text(121);
    }

    /** "USED if n is below NR": n is NR - 1, NR and, a turn of the ratchet later, of a chain that is no more. */
    private static void usedAtTheEdge() {
        Desk desk = States.begun(DUE, 3);
        desk.open(0, 0);
        desk.open(0, 5);
        desk.open(1, 0);
        desk.unchangedBy("used", d -> d.open(1, 5));
        desk.open(0, 5);
        desk.open(2, 0);
        desk.open(2, 5);
        desk.send(1, 0, 7, 3);
        desk.open(3, 0);
        desk.open(3, 5);
        desk.send(0, 1, 8, 4);
        desk.open(4, 0);
        desk.open(4, 5);
        desk.unchangedBy("one of a chain that is no more", d -> d.open(2, 1));
    }

    /** "Then PN is NS, NS and NR are 0, THEIRS is field 7 .. a new ratchet pair is drawn". */
    private static void numbersAfterATurn() {
        Desk desk = States.begun(DUE, 3);
        int first = Model.drawn(0, 1001, 5).shown();
        desk.open(1, 0);
        is(desk, 1, 0, 0, base(0), 0, 2, 0, 1, first, Model.drawn(1, 1002, 5).shown(), 0);
        desk.sendMany(1, 0, 4);
        is(desk, 1, 0, 0, base(0), 4, 2, 0, 1, first, Model.drawn(1, 1002, 5).shown(), 0);
        desk.open(5, 0);
        is(desk, 0, 1, 0, base(0), 0, 3, 3, 2, Model.drawn(1, 1002, 5).shown(), Model.drawn(0, 1001, 6).shown(), 0);
        desk.send(0, 1, 9, 7);
        desk.open(7, 0);
        is(desk, 1, 0, 0, base(0), 0, 1, 4, 2, Model.drawn(0, 1001, 6).shown(), Model.drawn(1, 1002, 6).shown(), 0);
        desk.open(6, 0);
        is(desk, 0, 1, 0, base(0), 1, 4, 3, 2, Model.drawn(1, 1002, 5).shown(), Model.drawn(0, 1001, 6).shown(), 0);
    }

    /** "Opened: .. the session is ANSWERED": the one that opened it, not one that was tried, and not a failed one. */
    private static void answeredByOpening() {
        Desk desk = threeAnswers();
        for (int k = 0; k < 3; k++) {
            desk.session(0, 1, k, 7, 1);
            desk.session(1, 0, k, 7, 0);
        }
        desk.openWith(3, 11, 0, 1);
        desk.session(0, 1, 1, 7, 1);
        desk.open(3, 0);
        desk.session(0, 1, 0, 0, base(1));
        desk.session(0, 1, 0, 7, 0);
        desk.session(0, 1, 1, 7, 1);
        desk.session(0, 1, 2, 7, 1);
    }
}
