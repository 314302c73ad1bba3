/** Promises 1 (a new object), 2 (register), 3 (rotate) and 13 (user). */
public final class UsersTest {
    private static final Due DUE = new Due("UsersTest");

    public static void main(String[] args) {
        aNewObject();
        registering();
        registeringWrongly();
        theHighestWords();
        everyUserDrawsItsOwn();
        rotating();
        rotatingMendsTheEntry();
        askingWrongly();
        DUE.end();
    }

    private static void aNewObject() {
        RatchetPost x = new RatchetPost();
        DUE.is("text()", x.text(), 0);
        for (int u = -1; u < 5; u++) {
            for (int what = -1; what < 11; what++) {
                DUE.is("user(" + u + ", " + what + ")", x.user(u, what), -1);
            }
            DUE.is("rotate(" + u + ")", x.rotate(u), false);
            DUE.is("prekeys(" + u + ", 1)", x.prekeys(u, 1), -1);
            DUE.is("spoil(" + u + ", 0, 0)", x.spoil(u, 0, 0), false);
            DUE.is("sessions(" + u + ", 0)", x.sessions(u, 0), -1);
            DUE.is("begin(" + u + ", 1)", x.begin(u, 1), -1);
            DUE.is("send(" + u + ", 1, 1)", x.send(u, 1, 1), -1);
        }
        DUE.is("envelope(0, 0)", x.envelope(0, 0), -1);
        DUE.is("open(0)", x.open(0), -1);
        DUE.is("copy(0)", x.copy(0), -1);
        DUE.is("alter(0, 0, 0)", x.alter(0, 0, 0), false);
        DUE.is("text() after all that", x.text(), 0);
    }

    private static void hasEntry(RatchetPost x, int u, Model.Pair identity, Model.Pair signed, Model.Pair nonce) {
        int h = Model.hash(identity.shown(), signed.shown(), nonce.shown());
        DUE.is("X", x.user(u, 6), identity.shown());
        DUE.is("S", x.user(u, 7), signed.shown());
        DUE.is("R", x.user(u, 8), nonce.shown());
        DUE.is("s", x.user(u, 9), Model.signature(identity.secret(), nonce.secret(), h));
    }

    private static void registering() {
        long[] entropies = {0, 1, -1, Long.MIN_VALUE, Long.MAX_VALUE, 0x123456789ABCDEF0L};
        for (long entropy : entropies) {
            RatchetPost x = new RatchetPost();
            DUE.is("register(2, " + entropy + ")", x.register(2, entropy), true);
            Model.Pair identity = Model.drawn(2, entropy, 1);
            Model.Pair signed = Model.drawn(2, entropy, 2);
            DUE.is("identity", x.user(2, 0), identity.shown());
            DUE.is("signed", x.user(2, 1), signed.shown());
            DUE.is("no old signed one", x.user(2, 2), 0);
            DUE.is("count", x.user(2, 3), 3);
            DUE.is("one-time pairs", x.user(2, 4), 0);
            DUE.is("one-time keys in the directory", x.user(2, 5), 0);
            hasEntry(x, 2, identity, signed, Model.drawn(2, entropy, 3));
            DUE.is("no other user", x.user(1, 0), -1);
        }
        RatchetPost x = new RatchetPost();
        DUE.is("register(1, 81985529216486895)", x.register(1, 81985529216486895L), true);
        DUE.is("user(1, 0), as the tests that are shared have it", x.user(1, 0), 232673618);
    }

    private static void registeringWrongly() {
        RatchetPost x = new RatchetPost();
        DUE.is("register(-1, 1)", x.register(-1, 1), false);
        DUE.is("register(4, 1)", x.register(4, 1), false);
        DUE.is("register(least, 1)", x.register(Integer.MIN_VALUE, 1), false);
        DUE.is("register(3, 1)", x.register(3, 1), true);
        int identity = x.user(3, 0);
        DUE.is("register(3, 2)", x.register(3, 2), false);
        DUE.is("the identity stays", x.user(3, 0), identity);
        DUE.is("the count stays", x.user(3, 3), 3);
        DUE.is("register(0, 1)", x.register(0, 1), true);
    }

    /** Entropies, found by a search, whose first word lies so high that the remainder begins anew at private key 2. */
    private static void theHighestWords() {
        long[] entropies = {1463546373L, 1190134420L, 1020559339L, 1029052531L};
        int[] identities = {49, 343, 2401, 16807};
        for (int i = 0; i < 4; i++) {
            RatchetPost x = new RatchetPost();
            x.register(0, entropies[i]);
            DUE.is("the identity 7^" + (i + 2), x.user(0, 0), identities[i]);
        }
    }

    private static void everyUserDrawsItsOwn() {
        RatchetPost x = new RatchetPost();
        for (int u = 0; u < 4; u++) {
            DUE.is("register(" + u + ", 9)", x.register(u, 9), true);
        }
        for (int u = 0; u < 4; u++) {
            DUE.is("identity of " + u, x.user(u, 0), Model.drawn(u, 9, 1).shown());
        }
    }

    private static void rotating() {
        RatchetPost x = new RatchetPost();
        x.register(0, 77);
        x.register(1, 78);
        Model.Pair identity = Model.drawn(0, 77, 1);
        DUE.is("rotate(0)", x.rotate(0), true);
        DUE.is("identity", x.user(0, 0), identity.shown());
        DUE.is("signed", x.user(0, 1), Model.drawn(0, 77, 4).shown());
        DUE.is("old", x.user(0, 2), Model.drawn(0, 77, 2).shown());
        DUE.is("count", x.user(0, 3), 5);
        hasEntry(x, 0, identity, Model.drawn(0, 77, 4), Model.drawn(0, 77, 5));
        DUE.is("prekeys(0, 1)", x.prekeys(0, 1), 1);
        DUE.is("rotate(0)", x.rotate(0), true);
        DUE.is("signed", x.user(0, 1), Model.drawn(0, 77, 7).shown());
        DUE.is("old", x.user(0, 2), Model.drawn(0, 77, 4).shown());
        DUE.is("one-time keys stay in the directory", x.user(0, 5), 1);
        hasEntry(x, 0, identity, Model.drawn(0, 77, 7), Model.drawn(0, 77, 8));
        DUE.is("the other user stays", x.user(1, 3), 3);
        DUE.is("rotate(2)", x.rotate(2), false);
        DUE.is("rotate(-1)", x.rotate(-1), false);
        DUE.is("rotate(4)", x.rotate(4), false);
    }

    private static void rotatingMendsTheEntry() {
        RatchetPost x = new RatchetPost();
        x.register(0, 5);
        x.register(1, 6);
        for (int what = 0; what < 4; what++) {
            x.spoil(1, what, 1 << 20);
        }
        DUE.is("begin(0, 1)", x.begin(0, 1), 1);
        DUE.is("rotate(1)", x.rotate(1), true);
        hasEntry(x, 1, Model.drawn(1, 6, 1), Model.drawn(1, 6, 4), Model.drawn(1, 6, 5));
        DUE.is("begin(0, 1)", x.begin(0, 1), 0);
    }

    private static void askingWrongly() {
        RatchetPost x = new RatchetPost();
        x.register(0, 5);
        DUE.is("user(0, -1)", x.user(0, -1), -1);
        DUE.is("user(0, 10)", x.user(0, 10), -1);
        DUE.is("user(-1, 0)", x.user(-1, 0), -1);
        DUE.is("user(4, 0)", x.user(4, 0), -1);
        DUE.is("user(1, 0)", x.user(1, 0), -1);
    }
}
