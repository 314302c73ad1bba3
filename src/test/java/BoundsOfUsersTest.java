/**
 * The sentences on users and the directory that name a bound, each with a test of its own: promises 1 to 6 and 13,
 * and "Terms" from USERS to THE DIRECTORY.
 */
public final class BoundsOfUsersTest {
    private static final int P = Model.P;
    private static final int HALF = (P - 1) / 2;
    private static final int LEAST = Integer.MIN_VALUE;
    private static final Due DUE = new Due("BoundsOfUsersTest");

    public static void main(String[] args) {
        nobodyIsRegistered();
        noEnvelopesAndNoText();
        objectsKnowNothingOfEachOther();
        usersAreZeroToThree();
        entropiesAreAnyLongs();
        theEntryHasNoOneTimeKey();
        theCountGrowsByOne();
        noOldPairAtFirst();
        whatWasOldIsNoMore();
        rotatingPutsTheWholeEntry();
        oneToSixPrekeys();
        fewerWhenTheEntryHasSix();
        fewerWhenThereAreTenPairs();
        bothBoundsAtOnce();
        inTheOrderInWhichTheyWereMade();
        newPairsLeaveTheOthers();
        anyMaskSpoils();
        onlyTheEntryIsSpoilt();
        theFirstKeyIsHandedOut();
        handedOutAlsoWhenTheAnswerIsOne();
        nothingToHandOut();
        theRangeOfX();
        theRangeOfS();
        theRangeOfR();
        theRangeOfTheSignature();
        theSignatureItself();
        anEntryWithSOfTheEnds();
        tenThingsAboutAUser();
        theLastCall();
        DUE.end();
    }

    /** Promise 1: "Nobody is registered". */
    private static void nobodyIsRegistered() {
        Desk desk = States.fresh(DUE);
        for (int u = 0; u < 4; u++) {
            for (int what = 0; what < 10; what++) {
                desk.user(u, what, -1);
            }
            for (int v = 0; v < 4; v++) {
                desk.sessions(u, v, -1);
            }
            desk.register(u, u, true);
        }
    }

    /** Promise 1: "no envelopes; the latest text is 0." */
    private static void noEnvelopesAndNoText() {
        Desk desk = States.fresh(DUE);
        desk.text(0);
        desk.envelope(0, 0, -1);
        desk.copy(0, -1);
        desk.open(0, -1);
        desk.alter(0, 0, 0, false);
        desk.register(0, 1, true);
        desk.register(1, 2, true);
        desk.begin(0, 1, 0);
        desk.text(0);
        desk.envelope(0, 0, -1);
        desk.send(0, 1, 9, 0);
        desk.text(0);
    }

    /** Promise 1: a new object is new, whatever another one has been through. */
    private static void objectsKnowNothingOfEachOther() {
        Desk used = States.busy(DUE);
        Desk fresh = States.fresh(DUE);
        fresh.text(0);
        fresh.user(0, 0, -1);
        fresh.envelope(0, 0, -1);
        fresh.register(0, 77, true);
        fresh.register(1, 78, true);
        fresh.sessions(0, 1, 0);
        fresh.begin(0, 1, 0);
        used.open(3, 0);
        fresh.send(0, 1, 5, 0);
        used.open(5, 0);
        fresh.open(0, 0);
        fresh.text(5);
        used.text(300);
        used.goOn();
        fresh.goOn();
    }

    /** Promise 2 and "USERS are 0 .. 3": the first and the last can do all that the others can. */
    private static void usersAreZeroToThree() {
        Desk desk = States.fresh(DUE);
        desk.register(-1, 9, false);
        desk.register(4, 9, false);
        desk.register(3, 9, true);
        desk.register(0, 9, true);
        desk.user(3, 0, Model.drawn(3, 9, 1).shown());
        desk.user(0, 0, Model.drawn(0, 9, 1).shown());
        desk.user(1, 0, -1);
        desk.user(2, 0, -1);
        desk.user(4, 0, -1);
        desk.user(-1, 0, -1);
        desk.prekeys(3, 1, 1);
        desk.prekeys(0, 1, 1);
        desk.begin(0, 3, 0);
        desk.begin(3, 0, 0);
        desk.send(0, 3, 11, 0);
        desk.send(3, 0, 12, 1);
        desk.open(0, 0);
        desk.open(1, 0);
        desk.text(12);
        desk.rotate(3, true);
        desk.rotate(0, true);
        desk.spoil(3, 3, 1, true);
        desk.spoil(0, 3, 1, true);
        desk.register(3, 9, false);
        desk.register(0, 9, false);
    }

    /** "an ENTROPY (a long)": both halves count, to the last bit. */
    private static void entropiesAreAnyLongs() {
        long[] entropies = {0, 1, -1, 1L << 31, 1L << 32, 0xFFFFFFFFL, 1L << 63, Long.MAX_VALUE};
        for (int i = 0; i < entropies.length; i++) {
            Desk desk = States.fresh(DUE);
            desk.register(1, entropies[i], true);
            desk.user(1, 0, Model.drawn(1, entropies[i], 1).shown());
            for (int j = 0; j < i; j++) {
                DUE.is("another entropy, another identity",
                    desk.user(1, 0) == Model.drawn(1, entropies[j], 1).shown(), false);
            }
        }
    }

    /** Promise 2: "the entry in the directory has no one-time key." */
    private static void theEntryHasNoOneTimeKey() {
        Desk desk = States.twoUsers(DUE);
        desk.user(1, 4, 0);
        desk.user(1, 5, 0);
        desk.begin(0, 1, 0);
        desk.send(0, 1, 5, 0);
        desk.envelope(0, 6, 0);
        desk.open(0, 0);
        desk.user(1, 4, 0);
    }

    /** "To DRAW a pair: the count grows by 1", and by nothing else. */
    private static void theCountGrowsByOne() {
        Desk desk = States.twoUsers(DUE);
        desk.user(0, 3, 3);
        desk.rotate(0, true);
        desk.user(0, 3, 5);
        desk.prekeys(0, 6, 6);
        desk.user(0, 3, 11);
        desk.prekeys(0, 6, 0);
        desk.user(0, 3, 11);
        desk.begin(0, 1, 0);
        desk.user(0, 3, 13);
        desk.user(1, 3, 3);
        desk.sendMany(0, 1, 3);
        desk.user(0, 3, 13);
        desk.open(2, 0);
        desk.user(1, 3, 4);
        desk.open(0, 0);
        desk.open(1, 0);
        desk.open(1, 5);
        desk.user(1, 3, 4);
        desk.send(1, 0, 9, 3);
        desk.open(3, 0);
        desk.user(0, 3, 14);
        desk.spoil(1, 0, 1, true);
        desk.begin(0, 1, 1);
        desk.user(0, 3, 14);
        desk.user(1, 3, 4);
    }

    /** Promise 13: "2: the old signed one, 0 if there is none". */
    private static void noOldPairAtFirst() {
        Desk desk = States.begun(DUE, 1);
        desk.user(1, 2, 0);
        desk.openWith(0, 5, 0, 3);
        int signed = desk.user(1, 1);
        desk.rotate(1, true);
        desk.user(1, 2, signed);
        desk.openWith(0, 5, 0, 3);
        desk.open(0, 0);
    }

    /** Promise 3: "The signed pair of u becomes the old one (what was old is no more)". */
    private static void whatWasOldIsNoMore() {
        for (int turns = 0; turns < 4; turns++) {
            Desk desk = States.begun(DUE, 1);
            for (int i = 0; i < turns; i++) {
                int signed = desk.user(1, 1);
                desk.rotate(1, true);
                desk.user(1, 2, signed);
            }
            desk.open(0, turns < 2 ? 0 : 3);
            desk.user(1, 4, turns < 2 ? 0 : 1);
        }
    }

    /** Promise 3: "S, R and s put into the directory's entry (X is put there as well)". */
    private static void rotatingPutsTheWholeEntry() {
        for (int what = 0; what < 4; what++) {
            Desk desk = States.twoUsers(DUE);
            desk.prekeys(1, 2, 2);
            desk.spoil(1, what, LEAST, true);
            desk.begin(0, 1, 1);
            desk.rotate(1, true);
            desk.user(1, 6, Model.drawn(1, 1002, 1).shown());
            desk.user(1, 7, Model.drawn(1, 1002, 6).shown());
            desk.user(1, 8, Model.drawn(1, 1002, 7).shown());
            desk.user(1, 5, 1);
            desk.user(1, 4, 2);
            desk.begin(0, 1, 0);
            desk.send(0, 1, 8, 0);
            desk.open(0, 0);
        }
    }

    /** Promise 4: "n of them .. NONE when .. n is not 1 .. 6." */
    private static void oneToSixPrekeys() {
        for (int n = 1; n <= 6; n++) {
            Desk desk = States.twoUsers(DUE);
            desk.prekeys(1, 0, -1);
            desk.prekeys(1, 7, -1);
            desk.user(1, 4, 0);
            desk.prekeys(1, n, n);
            desk.user(1, 3, 3 + n);
            desk.user(1, 4, n);
            desk.user(1, 5, n);
            desk.user(0, 4, 0);
            desk.prekeys(1, 7, -1);
            desk.user(1, 3, 3 + n);
        }
    }

    /** Promise 4: "but fewer when its entry would have more than 6". */
    private static void fewerWhenTheEntryHasSix() {
        for (int there = 1; there <= 6; there++) {
            for (int n = 1; n <= 6; n++) {
                Desk desk = States.twoUsers(DUE);
                desk.prekeys(1, there, there);
                desk.prekeys(1, n, Math.min(n, 6 - there));
                desk.user(1, 5, Math.min(6, there + n));
                desk.user(1, 4, Math.min(6, there + n));
                desk.user(1, 3, 3 + Math.min(6, there + n));
            }
        }
    }

    /** User 1 with this many one-time pairs, all of which were handed out. */
    private static Desk allHandedOut(int pairs) {
        Desk desk = States.twoUsers(DUE);
        for (int i = 0; i < pairs; i++) {
            desk.prekeys(1, 1, 1);
            desk.begin(0, 1, 0);
        }
        desk.user(1, 4, pairs);
        desk.user(1, 5, 0);
        return desk;
    }

    /** Promise 4: "or u more than 10 pairs"; a pair that is no more makes room again. */
    private static void fewerWhenThereAreTenPairs() {
        for (int pairs = 4; pairs <= 10; pairs++) {
            Desk desk = allHandedOut(pairs);
            int made = Math.min(6, 10 - pairs);
            desk.prekeys(1, 6, made);
            desk.user(1, 4, pairs + made);
            desk.user(1, 5, made);
            desk.user(1, 3, 3 + pairs + made);
        }
        Desk desk = allHandedOut(10);
        desk.prekeys(1, 1, 0);
        desk.send(0, 1, 5, 0);
        desk.prekeys(1, 1, 0);
        desk.open(0, 0);
        desk.user(1, 4, 9);
        desk.prekeys(1, 2, 1);
        desk.user(1, 4, 10);
        desk.user(1, 5, 1);
        desk.prekeys(1, 2, 0);
    }

    /** Promise 4: with nine pairs and five keys in the entry each bound leaves room for one. */
    private static void bothBoundsAtOnce() {
        Desk desk = allHandedOut(4);
        desk.prekeys(1, 5, 5);
        desk.user(1, 4, 9);
        desk.prekeys(1, 2, 1);
        desk.user(1, 4, 10);
        desk.user(1, 5, 6);
        desk.prekeys(1, 1, 0);
        desk.begin(0, 1, 0);
        desk.user(1, 5, 5);
        desk.prekeys(1, 1, 0);
        desk.user(1, 5, 5);
        desk.send(0, 1, 5, 0);
        desk.open(0, 0);
        desk.prekeys(1, 6, 1);
        desk.user(1, 5, 6);
        desk.user(1, 4, 10);
    }

    /** "one-time pairs that were not handed out .. in order": also when some are handed out in between. */
    private static void inTheOrderInWhichTheyWereMade() {
        Desk desk = States.twoUsers(DUE);
        desk.prekeys(1, 3, 3);
        desk.begin(0, 1, 0);
        desk.send(0, 1, 5, 0);
        desk.envelope(0, 6, Model.drawn(1, 1002, 4).shown());
        desk.prekeys(1, 6, 4);
        for (int i = 1; i <= 6; i++) {
            desk.begin(0, 1, 0);
            desk.send(0, 1, 5, i);
            desk.envelope(i, 6, Model.drawn(1, 1002, 4 + i).shown());
            desk.user(1, 5, 6 - i);
            desk.user(1, 4, 7);
        }
        for (int e = 6; e >= 0; e--) {
            desk.open(e, 0);
            desk.user(1, 4, e);
        }
    }

    /** "ONE-TIME pairs .. in the order in which they were made": one in the middle is no more, and new ones come. */
    private static void newPairsLeaveTheOthers() {
        for (int used = 0; used < 4; used++) {
            Desk desk = States.twoUsers(DUE);
            desk.prekeys(1, 4, 4);
            for (int e = 0; e < 4; e++) {
                desk.begin(0, 1, 0);
                desk.send(0, 1, 40 + e, e);
            }
            desk.open(used, 0);
            desk.user(1, 4, 3);
            desk.prekeys(1, 2, 2);
            desk.user(1, 4, 5);
            // The last one's session has fallen out when its turn comes again: three newer ones stand in the list.
            int again = used == 3 ? 3 : 5;
            for (int e = 0; e < 4; e++) {
                desk.open(e, e == used ? again : 0);
                desk.text(40 + (e == used && e > 0 ? e - 1 : e));
            }
            desk.user(1, 4, 2);
            desk.begin(0, 1, 0);
            desk.send(0, 1, 50, 4);
            desk.envelope(4, 6, Model.drawn(1, 1002, 9).shown());
            desk.open(4, 0);
            desk.user(1, 4, 1);
        }
    }

    private static int[] entryOf(Desk desk, int u) {
        return new int[] {desk.user(u, 6), desk.user(u, 7), desk.user(u, 8), desk.user(u, 9)};
    }

    private static void entryIs(Desk desk, int u, int[] want) {
        for (int what = 0; what < 4; what++) {
            desk.user(u, 6 + what, want[what]);
        }
    }

    /** Promise 5: "becomes itself ^ mask: true". */
    private static void anyMaskSpoils() {
        for (int what = 0; what < 4; what++) {
            Desk desk = States.twoUsers(DUE);
            int[] other = entryOf(desk, 0);
            int[] want = entryOf(desk, 1);
            for (int mask : new int[] {0, 1, -1, LEAST, Integer.MAX_VALUE, 1 << 16}) {
                desk.spoil(1, what, mask, true);
                want[what] ^= mask;
                entryIs(desk, 1, want);
            }
            desk.spoil(1, what, want[what], true);
            desk.user(1, 6 + what, 0);
            entryIs(desk, 0, other);
        }
    }

    /** Promise 5: "In the directory's entry of u": the user's own keys and the other entries stay. */
    private static void onlyTheEntryIsSpoilt() {
        Desk desk = States.begun(DUE, 2);
        desk.open(0, 0);
        for (int what = 0; what < 4; what++) {
            desk.spoil(1, what, 1 << 20, true);
        }
        desk.user(1, 0, Model.drawn(1, 1002, 1).shown());
        desk.user(1, 1, Model.drawn(1, 1002, 2).shown());
        desk.user(1, 2, 0);
        desk.user(1, 3, 5);
        desk.user(0, 6, Model.drawn(0, 1001, 1).shown());
        desk.begin(0, 1, 1);
        desk.begin(1, 0, 0);
        desk.open(1, 0);
        desk.text(101);
        desk.send(1, 0, 6, 2);
        desk.open(2, 0);
    }

    /** Promise 6: "its first one-time key, if there is one, is handed out (it is there no more". */
    private static void theFirstKeyIsHandedOut() {
        Desk desk = States.fourUsers(DUE);
        desk.prekeys(1, 2, 2);
        desk.begin(0, 1, 0);
        desk.user(1, 5, 1);
        desk.begin(2, 1, 0);
        desk.user(1, 5, 0);
        desk.begin(3, 1, 0);
        desk.user(1, 5, 0);
        desk.user(1, 4, 2);
        int[] from = {0, 2, 3};
        for (int e = 0; e < 3; e++) {
            desk.send(from[e], 1, 70 + e, e);
            desk.envelope(e, 6, e == 2 ? 0 : Model.drawn(1, 1002, 4 + e).shown());
            desk.open(e, 0);
            desk.text(70 + e);
        }
        desk.user(1, 4, 0);
    }

    /** Promise 6: "also when the answer is 1). 1 when the entry does not hold": but nothing else happens then. */
    private static void handedOutAlsoWhenTheAnswerIsOne() {
        for (int what = 0; what < 4; what++) {
            Desk desk = States.twoUsers(DUE);
            desk.prekeys(1, 3, 3);
            desk.spoil(1, what, 1, true);
            for (int left = 2; left >= 0; left--) {
                desk.begin(0, 1, 1);
                desk.user(1, 5, left);
                desk.user(1, 4, 3);
                desk.user(0, 3, 3);
                desk.user(1, 3, 6);
                desk.sessions(0, 1, 0);
            }
            desk.unchangedBy("nothing is left to hand out", d -> d.begin(0, 1, 1));
            desk.spoil(1, what, 1, true);
            desk.prekeys(1, 1, 1);
            desk.begin(0, 1, 0);
            desk.send(0, 1, 4, 0);
            desk.envelope(0, 6, Model.drawn(1, 1002, 7).shown());
            desk.open(0, 0);
            desk.user(1, 4, 3);
        }
    }

    /** Promise 6: "if there is one"; AGREEMENT: "(or none; O is 0 then)". */
    private static void nothingToHandOut() {
        Desk desk = States.twoUsers(DUE);
        desk.begin(0, 1, 0);
        Model.Pair a = Model.drawn(0, 1001, 1);
        Model.Pair e = Model.drawn(0, 1001, 4);
        Model.Pair ratchet = Model.drawn(0, 1001, 5);
        int b = Model.drawn(1, 1002, 1).shown();
        int s = Model.drawn(1, 1002, 2).shown();
        int[] agreed = Model.mix(Model.mix(new int[8], Model.pow(s, a.secret()), Model.pow(b, e.secret()),
            Model.pow(s, e.secret()), 0), a.shown(), b, 4, 0);
        desk.session(0, 1, 0, 8, Model.mix(agreed, Model.pow(s, ratchet.secret()), 5, 0, 0)[0]);
        desk.send(0, 1, 3, 0);
        desk.envelope(0, 6, 0);
        desk.open(0, 0);
        desk.text(3);
    }

    private static void entryGives(int answer, int x, int s, int r, int sig) {
        Desk desk = States.twoUsers(DUE);
        int[] entry = {x, s, r, sig};
        for (int what = 0; what < 4; what++) {
            desk.writeEntry(1, what, entry[what]);
            desk.user(1, 6 + what, entry[what]);
        }
        desk.begin(0, 1, answer);
        desk.sessions(0, 1, answer == 0 ? 1 : 0);
        desk.user(0, 3, answer == 0 ? 5 : 3);
    }

    /** The identity with this private key signs S with this private nonce. */
    private static void signedGives(int answer, int x, int s, int r) {
        int identity = Model.pow(7, x);
        int nonce = Model.pow(7, r);
        entryGives(answer, identity, s, nonce, Model.signature(x, r, Model.hash(identity, s, nonce)));
    }

    /** A signed key with which h is even, so that an X of -1 would do as well as 1 if it were taken. */
    private static int signedKeyWithEvenHash(int x, int r) {
        int s = 44;
        while (Model.hash(x, s, r) % 2 != 0) {
            s++;
        }
        return s;
    }

    /** "An entry HOLDS if X .. 1 .. P - 1"; RareKeysTest has an X of 0 and of P that nothing else speaks against. */
    private static void theRangeOfX() {
        signedGives(0, 0, 44, 6666);
        signedGives(0, HALF, 44, 6666);
        signedGives(0, P - 2, 44, 6666);
        entryGives(0, 1, 44, 7, 1);
        entryGives(1, 0, 44, 7, 1);
        entryGives(1, P, 44, 7, 1);
        entryGives(1, -1, signedKeyWithEvenHash(-1, 7), 7, 1);
        entryGives(1, LEAST, 44, 7, 1);
    }

    /** "S .. 1 .. P - 1": signed rightly, so that nothing but the range speaks against it. */
    private static void theRangeOfS() {
        signedGives(0, 5555, 1, 6666);
        signedGives(0, 5555, 2, 6666);
        signedGives(0, 5555, P - 2, 6666);
        signedGives(0, 5555, P - 1, 6666);
        signedGives(1, 5555, 0, 6666);
        signedGives(1, 5555, P, 6666);
        signedGives(1, 5555, -1, 6666);
        signedGives(1, 5555, LEAST, 6666);
    }

    /** "R .. 1 .. P - 1". */
    private static void theRangeOfR() {
        signedGives(0, 5555, 44, 0);
        signedGives(0, 5555, 44, HALF);
        entryGives(1, 1, 44, 0, 1);
        entryGives(1, 1, 44, P, 1);
        entryGives(1, 1, 44, 7 - P, 1);
        entryGives(1, 1, 44, -7, 1);
        entryGives(1, 1, 44, 7 + LEAST, 1);
    }

    /** "s is 0 .. P - 2": s may not be another number with the same power. */
    private static void theRangeOfTheSignature() {
        entryGives(0, 1, 44, 1, 0);
        entryGives(1, 1, 44, 1, P - 1);
        entryGives(1, 1, 44, 1, LEAST);
        entryGives(1, 1, 44, 1, LEAST + 2);
        entryGives(0, 1, 44, 7, 1);
        entryGives(1, 1, 44, 7, P);
        entryGives(1, 1, 44, 7, LEAST + 1);
        entryGives(1, 1, 44, 7, -1);
        entryGives(0, 1, 44, Model.pow(7, P - 2), P - 2);
        entryGives(1, 1, 44, Model.pow(7, P - 2), -1);
        entryGives(1, 1, 44, Model.pow(7, P - 2), -2);
    }

    /** "and G^s is R * X^h mod P". */
    private static void theSignatureItself() {
        entryGives(1, 1, 44, 7, 0);
        entryGives(1, 1, 44, 7, 2);
        entryGives(1, 1, 44, 8, 1);
        int x = Model.pow(7, 5555);
        int r = Model.pow(7, 6666);
        int sig = Model.signature(5555, 6666, Model.hash(x, 44, r));
        entryGives(0, x, 44, r, sig);
        entryGives(1, x, 45, r, sig);
        entryGives(1, x + 1, 44, r, sig);
        entryGives(1, x, 44, r + 1, sig);
        entryGives(1, x, 44, r, sig + 1);
        entryGives(1, x, 44, r, (sig + HALF) % (P - 1));
    }

    /** An S of 1 or P - 1 holds, and a session can be begun and sealed with it, though nobody has its private key. */
    private static void anEntryWithSOfTheEnds() {
        for (int s : new int[] {1, P - 1}) {
            Desk desk = States.twoUsers(DUE);
            int x = Model.pow(7, 5555);
            int r = Model.pow(7, 6666);
            int[] entry = {x, s, r, Model.signature(5555, 6666, Model.hash(x, s, r))};
            for (int what = 0; what < 4; what++) {
                desk.writeEntry(1, what, entry[what]);
            }
            desk.begin(0, 1, 0);
            desk.session(0, 1, 0, 5, s);
            desk.session(0, 1, 0, 8);
            desk.send(0, 1, 5, 0);
            desk.envelope(0, 5, s);
            desk.envelope(0, 10);
            desk.envelope(0, 11);
            desk.open(0, 3);
        }
    }

    /** Promise 13: "NONE when u is not registered or what is not 0 .. 9." */
    private static void tenThingsAboutAUser() {
        Desk desk = States.busy(DUE);
        for (int u : new int[] {-1, 2, 4, LEAST, Integer.MAX_VALUE}) {
            for (int what = 0; what < 10; what++) {
                desk.user(u, what, -1);
            }
        }
        for (int u : new int[] {0, 1, 3}) {
            for (int what : new int[] {-1, 10, 11, LEAST, Integer.MAX_VALUE}) {
                desk.user(u, what, -1);
            }
        }
        desk.user(1, 0, Model.drawn(1, 1002, 1).shown());
        desk.user(1, 1, Model.drawn(1, 1002, 9).shown());
        desk.user(1, 2, Model.drawn(1, 1002, 2).shown());
        desk.user(1, 3, 10);
        desk.user(1, 4, 3);
        desk.user(1, 5, 1);
        int x = Model.drawn(1, 1002, 1).shown();
        int s = Model.drawn(1, 1002, 9).shown();
        Model.Pair nonce = Model.drawn(1, 1002, 10);
        desk.user(1, 6, x);
        desk.user(1, 7, s);
        desk.user(1, 8, nonce.shown());
        desk.user(1, 9, Model.signature(Model.drawn(1, 1002, 1).secret(), nonce.secret(),
            Model.hash(x, s, nonce.shown())));
    }

    /** "An object is used for at most 512 calls": the last one is still answered. */
    private static void theLastCall() {
        Desk desk = States.begun(DUE, 60);
        while (desk.calls() < 505) {
            desk.rotate(0, true);
        }
        int turns = 505 - 64;
        desk.user(0, 3, 5 + 2 * turns);
        desk.user(0, 1, Model.drawn(0, 1001, 4 + 2 * turns).shown());
        desk.begin(1, 0, 0);
        desk.session(1, 0, 0, 5, Model.drawn(0, 1001, 4 + 2 * turns).shown());
        desk.open(8, 0);
        desk.text(108);
        desk.user(0, 2, Model.drawn(0, 1001, 2 + 2 * turns).shown());
        DUE.is("that was the last call", desk.calls(), 512);
    }
}
