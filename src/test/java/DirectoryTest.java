/** Promises 4 (prekeys), 5 (spoil) and 6 (begin). */
public final class DirectoryTest {
    private static final int P = Model.P;
    private static final int HALF = (P - 1) / 2;
    private static final Due DUE = new Due("DirectoryTest");

    public static void main(String[] args) {
        offering();
        offeringUpToTenPairs();
        offeringWrongly();
        spoiling();
        beginning();
        handingOut();
        handingOutFromAnEntryThatDoesNotHold();
        beginningWrongly();
        aForgedEntryIsBelieved();
        theRangesOfAnEntry();
        aFourthSession();
        DUE.end();
    }

    private static RatchetPost twoUsers() {
        RatchetPost x = new RatchetPost();
        x.register(0, 1000);
        x.register(1, 2000);
        return x;
    }

    private static void offering() {
        RatchetPost x = twoUsers();
        DUE.is("prekeys(1, 4)", x.prekeys(1, 4), 4);
        DUE.is("pairs", x.user(1, 4), 4);
        DUE.is("keys in the directory", x.user(1, 5), 4);
        DUE.is("count", x.user(1, 3), 7);
        DUE.is("prekeys(1, 6), with room for two", x.prekeys(1, 6), 2);
        DUE.is("count", x.user(1, 3), 9);
        DUE.is("prekeys(1, 1), with no room", x.prekeys(1, 1), 0);
        DUE.is("count", x.user(1, 3), 9);
        DUE.is("pairs", x.user(1, 4), 6);
        DUE.is("keys in the directory", x.user(1, 5), 6);
        DUE.is("the other user has none", x.user(0, 4), 0);
    }

    private static void offeringUpToTenPairs() {
        RatchetPost x = twoUsers();
        x.prekeys(1, 6);
        for (int i = 0; i < 6; i++) {
            DUE.is("begin(0, 1)", x.begin(0, 1), 0);
        }
        DUE.is("keys in the directory", x.user(1, 5), 0);
        DUE.is("pairs", x.user(1, 4), 6);
        DUE.is("prekeys(1, 6), with six pairs", x.prekeys(1, 6), 4);
        DUE.is("keys in the directory", x.user(1, 5), 4);
        DUE.is("pairs", x.user(1, 4), 10);
        DUE.is("prekeys(1, 2), with ten pairs", x.prekeys(1, 2), 0);
        DUE.is("send(0, 1, 3)", x.send(0, 1, 3), 0);
        DUE.is("the sixth key was handed out", x.envelope(0, 6), Model.drawn(1, 2000, 9).shown());
        DUE.is("open(0)", x.open(0), 0);
        DUE.is("its pair is no more", x.user(1, 4), 9);
        DUE.is("prekeys(1, 2), with nine pairs", x.prekeys(1, 2), 1);
        DUE.is("keys in the directory", x.user(1, 5), 5);
    }

    private static void offeringWrongly() {
        RatchetPost x = twoUsers();
        DUE.is("prekeys(1, 0)", x.prekeys(1, 0), -1);
        DUE.is("prekeys(1, 7)", x.prekeys(1, 7), -1);
        DUE.is("prekeys(1, -1)", x.prekeys(1, -1), -1);
        DUE.is("prekeys(2, 1)", x.prekeys(2, 1), -1);
        DUE.is("prekeys(-1, 1)", x.prekeys(-1, 1), -1);
        DUE.is("prekeys(4, 1)", x.prekeys(4, 1), -1);
        DUE.is("count", x.user(1, 3), 3);
        DUE.is("pairs", x.user(1, 4), 0);
    }

    private static void spoiling() {
        RatchetPost x = twoUsers();
        int identity = x.user(1, 0);
        int signed = x.user(1, 1);
        for (int what = 0; what < 4; what++) {
            int before = x.user(1, 6 + what);
            DUE.is("spoil(1, " + what + ", -5)", x.spoil(1, what, -5), true);
            DUE.is("the entry", x.user(1, 6 + what), before ^ -5);
            DUE.is("begin(0, 1)", x.begin(0, 1), 1);
            DUE.is("spoil(1, " + what + ", -5)", x.spoil(1, what, -5), true);
            DUE.is("the entry", x.user(1, 6 + what), before);
            DUE.is("spoil(1, " + what + ", 2)", x.spoil(1, what, 2), true);
            DUE.is("begin(0, 1)", x.begin(0, 1), 1);
            x.spoil(1, what, 2);
        }
        DUE.is("the identity itself stays", x.user(1, 0), identity);
        DUE.is("the signed key itself stays", x.user(1, 1), signed);
        DUE.is("spoil(1, 0, 0)", x.spoil(1, 0, 0), true);
        DUE.is("begin(0, 1)", x.begin(0, 1), 0);
        DUE.is("spoil(1, -1, 1)", x.spoil(1, -1, 1), false);
        DUE.is("spoil(1, 4, 1)", x.spoil(1, 4, 1), false);
        DUE.is("spoil(2, 0, 1)", x.spoil(2, 0, 1), false);
        DUE.is("spoil(-1, 0, 1)", x.spoil(-1, 0, 1), false);
        DUE.is("spoil(4, 0, 1)", x.spoil(4, 0, 1), false);
        DUE.is("begin(0, 1)", x.begin(0, 1), 0);
    }

    private static void beginning() {
        RatchetPost x = twoUsers();
        x.prekeys(1, 1);
        DUE.is("begin(0, 1)", x.begin(0, 1), 0);
        Model.Pair a = Model.drawn(0, 1000, 1);
        Model.Pair e = Model.drawn(0, 1000, 4);
        Model.Pair ratchet = Model.drawn(0, 1000, 5);
        int b = Model.drawn(1, 2000, 1).shown();
        int s = Model.drawn(1, 2000, 2).shown();
        int o = Model.drawn(1, 2000, 4).shown();
        int[] agreed = Model.mix(Model.mix(new int[8], Model.pow(s, a.secret()), Model.pow(b, e.secret()),
            Model.pow(s, e.secret()), Model.pow(o, e.secret())), a.shown(), b, 4, o);
        int[] root = Model.mix(agreed, Model.pow(s, ratchet.secret()), 5, 0, 0);
        long[] want = {e.shown(), 0, 0, 0, 0, s, ratchet.shown(), 1, root[0]};
        for (int what = 0; what < 9; what++) {
            DUE.is("session(0, 1, 0, " + what + ")", x.session(0, 1, 0, what), want[what]);
        }
        DUE.is("two draws", x.user(0, 3), 5);
        DUE.is("no draw of the other one", x.user(1, 3), 4);
        DUE.is("sessions(0, 1)", x.sessions(0, 1), 1);
        DUE.is("sessions(1, 0)", x.sessions(1, 0), 0);
    }

    private static void handingOut() {
        RatchetPost x = twoUsers();
        x.prekeys(1, 3);
        for (int i = 0; i < 4; i++) {
            x.begin(0, 1);
            DUE.is("send", x.send(0, 1, i), i);
            DUE.is("one-time key " + i, x.envelope(i, 6), i == 3 ? 0 : Model.drawn(1, 2000, 4 + i).shown());
            DUE.is("keys in the directory", x.user(1, 5), i == 3 ? 0 : 2 - i);
            DUE.is("pairs stay", x.user(1, 4), 3);
        }
    }

    private static void handingOutFromAnEntryThatDoesNotHold() {
        RatchetPost x = twoUsers();
        x.prekeys(1, 2);
        x.spoil(1, 3, 1);
        DUE.is("begin(0, 1)", x.begin(0, 1), 1);
        DUE.is("a key is handed out", x.user(1, 5), 1);
        DUE.is("nothing is drawn", x.user(0, 3), 3);
        DUE.is("no session", x.sessions(0, 1), 0);
        x.spoil(1, 3, 1);
        DUE.is("begin(0, 1)", x.begin(0, 1), 0);
        x.send(0, 1, 1);
        DUE.is("the second key", x.envelope(0, 6), Model.drawn(1, 2000, 5).shown());
    }

    private static void beginningWrongly() {
        RatchetPost x = twoUsers();
        x.prekeys(1, 1);
        DUE.is("begin(0, 0)", x.begin(0, 0), -1);
        DUE.is("begin(1, 1)", x.begin(1, 1), -1);
        DUE.is("begin(2, 1)", x.begin(2, 1), -1);
        DUE.is("begin(0, 2)", x.begin(0, 2), -1);
        DUE.is("begin(-1, 1)", x.begin(-1, 1), -1);
        DUE.is("begin(4, 1)", x.begin(4, 1), -1);
        DUE.is("begin(0, -1)", x.begin(0, -1), -1);
        DUE.is("begin(0, 4)", x.begin(0, 4), -1);
        DUE.is("nothing is handed out", x.user(1, 5), 1);
        DUE.is("nothing is drawn", x.user(0, 3), 3);
    }

    private static void writeEntry(RatchetPost x, int u, int... entry) {
        for (int what = 0; what < 4; what++) {
            x.spoil(u, what, x.user(u, 6 + what) ^ entry[what]);
        }
    }

    /** An entry signed rightly by the identity with this private key; also with keys out of range. */
    private static int[] signed(int identitySecret, int s, int nonceSecret) {
        int identity = Model.pow(7, identitySecret);
        int nonce = Model.pow(7, nonceSecret);
        return new int[] {identity, s, nonce,
            Model.signature(identitySecret, nonceSecret, Model.hash(identity, s, nonce))};
    }

    private static void aForgedEntryIsBelieved() {
        RatchetPost x = twoUsers();
        int[] forged = signed(123456, 7654321, 999);
        writeEntry(x, 1, forged);
        DUE.is("begin(0, 1)", x.begin(0, 1), 0);
        DUE.is("THEIRS", x.session(0, 1, 0, 5), 7654321);
        Model.Pair a = Model.drawn(0, 1000, 1);
        Model.Pair e = Model.drawn(0, 1000, 4);
        Model.Pair ratchet = Model.drawn(0, 1000, 5);
        int[] agreed = Model.mix(Model.mix(new int[8], Model.pow(forged[1], a.secret()),
            Model.pow(forged[0], e.secret()), Model.pow(forged[1], e.secret()), 0), a.shown(), forged[0], 4, 0);
        int[] root = Model.mix(agreed, Model.pow(forged[1], ratchet.secret()), 5, 0, 0);
        DUE.is("the root, agreed with X of the entry", x.session(0, 1, 0, 8), root[0]);
        DUE.is("send(0, 1, 1)", x.send(0, 1, 1), 0);
        DUE.is("S of the entry", x.envelope(0, 5), 7654321);
        DUE.is("open(0)", x.open(0), 3);
    }

    private static void theRangesOfAnEntry() {
        RatchetPost x = twoUsers();
        entryGives(x, "S = 1", 0, signed(5555, 1, 6666));
        entryGives(x, "S = P - 1", 0, signed(5555, P - 1, 6666));
        entryGives(x, "S = 0", 1, signed(5555, 0, 6666));
        entryGives(x, "S = P", 1, signed(5555, P, 6666));
        entryGives(x, "S = -1", 1, signed(5555, -1, 6666));
        entryGives(x, "X = 1", 0, signed(0, 44, 6666));
        entryGives(x, "X = P - 1", 0, signed(HALF, 44, 6666));
        entryGives(x, "R = 1", 0, signed(5555, 44, 0));
        entryGives(x, "R = P - 1", 0, signed(5555, 44, HALF));
        entryGives(x, "X = R = 1, s = 0", 0, new int[] {1, 44, 1, 0});
        entryGives(x, "X = R = 1, s = P - 1", 1, new int[] {1, 44, 1, P - 1});
        entryGives(x, "X = 1, R = 7, s = 1", 0, new int[] {1, 44, 7, 1});
        entryGives(x, "X = 1, R = 7, s = P", 1, new int[] {1, 44, 7, P});
        entryGives(x, "X = 1, R = 7, s = 2", 1, new int[] {1, 44, 7, 2});
        entryGives(x, "X = 1, R = G^(P - 2), s = P - 2", 0, new int[] {1, 44, Model.pow(7, P - 2), P - 2});
        entryGives(x, "X = 0", 1, new int[] {0, 44, 7, 1});
        entryGives(x, "R = 0", 1, new int[] {1, 44, 0, 1});
        entryGives(x, "X = P", 1, new int[] {P, 44, 7, 1});
        entryGives(x, "R = P", 1, new int[] {1, 44, P, 1});
        entryGives(x, "all negative", 1, new int[] {-1, -1, -1, -1});
        entryGives(x, "s = -1", 1, new int[] {1, 44, Model.pow(7, P - 2), -1});
        entryGives(x, "s = -1, R = 7", 1, new int[] {1, 44, 7, -1});
        entryGives(x, "s the least int, R = 1", 1, new int[] {1, 44, 1, Integer.MIN_VALUE});
    }

    private static void entryGives(RatchetPost x, String what, int answer, int[] entry) {
        writeEntry(x, 1, entry);
        DUE.is("begin with " + what, x.begin(0, 1), answer);
    }

    private static void aFourthSession() {
        RatchetPost x = twoUsers();
        int[] bases = new int[5];
        for (int i = 0; i < 5; i++) {
            DUE.is("begin(0, 1)", x.begin(0, 1), 0);
            bases[i] = x.session(0, 1, 0, 0);
            DUE.is("sessions(0, 1)", x.sessions(0, 1), Math.min(3, i + 1));
            for (int k = 0; k < 3; k++) {
                DUE.is("base " + k, x.session(0, 1, k, 0), i - k < 0 ? -1 : bases[i - k]);
            }
        }
    }
}
