/** Promises 7 (send), 8 (alter), 9 (copy), 11 (text) and 12 (envelope). */
public final class EnvelopesTest {
    private static final Due DUE = new Due("EnvelopesTest");

    public static void main(String[] args) {
        sealing(begun());
        sealingUnderASpoiltDirectory();
        firstAndFurther();
        sendingWrongly();
        sixtyEnvelopes();
        sixtyByCopies();
        altering();
        copying();
        theLatestText();
        asking();
        DUE.end();
    }

    private static RatchetPost begun() {
        RatchetPost x = new RatchetPost();
        x.register(0, 1000);
        x.register(1, 2000);
        x.prekeys(1, 1);
        DUE.is("begin(0, 1)", x.begin(0, 1), 0);
        return x;
    }

    /** The sending chain that user 0 has as it has begun. */
    private static int[] firstChain() {
        Model.Pair a = Model.drawn(0, 1000, 1);
        Model.Pair e = Model.drawn(0, 1000, 4);
        Model.Pair ratchet = Model.drawn(0, 1000, 5);
        int b = Model.drawn(1, 2000, 1).shown();
        int s = Model.drawn(1, 2000, 2).shown();
        int o = Model.drawn(1, 2000, 4).shown();
        int[] agreed = Model.mix(Model.mix(new int[8], Model.pow(s, a.secret()), Model.pow(b, e.secret()),
            Model.pow(s, e.secret()), Model.pow(o, e.secret())), a.shown(), b, 4, o);
        return Model.mix(agreed, Model.pow(s, ratchet.secret()), 6, 0, 0);
    }

    private static void sealingUnderASpoiltDirectory() {
        RatchetPost x = begun();
        x.spoil(0, 0, 3);
        x.spoil(1, 0, 3);
        x.spoil(1, 1, 3);
        sealing(x);
        DUE.is("open(1)", x.open(1), 0);
        DUE.is("text()", x.text(), -1);
    }

    private static void sealing(RatchetPost x) {
        int[] chain = firstChain();
        int a = Model.drawn(0, 1000, 1).shown();
        int b = Model.drawn(1, 2000, 1).shown();
        int ratchet = Model.drawn(0, 1000, 5).shown();
        long[] texts = {5, -1, Long.MIN_VALUE};
        for (int n = 0; n < 3; n++) {
            DUE.is("send", x.send(0, 1, texts[n]), n);
            int[] m = Model.mix(chain, 7, 0, 0, 0);
            chain = Model.mix(chain, 8, 0, 0, 0);
            long cipher = texts[n] ^ Model.wide(Model.mix(m, 9, 0, 0, 0));
            long tag = Model.wide(Model.mix(Model.mix(m, ratchet, n, 0, (int) (cipher >>> 32)), (int) cipher, a, b, 10));
            long[] want = {0, 1, 0, a, Model.drawn(0, 1000, 4).shown(), Model.drawn(1, 2000, 2).shown(),
                Model.drawn(1, 2000, 4).shown(), ratchet, n, 0, cipher, tag};
            for (int field = 0; field < 12; field++) {
                DUE.is("envelope(" + n + ", " + field + ")", x.envelope(n, field), want[field]);
            }
            DUE.is("NS", x.session(0, 1, 0, 1), n + 1);
        }
        DUE.is("nothing is drawn", x.user(0, 3), 5);
    }

    private static void firstAndFurther() {
        RatchetPost x = begun();
        x.send(0, 1, 1);
        x.open(0);
        DUE.is("send(0, 1, 2)", x.send(0, 1, 2), 1);
        DUE.is("still a FIRST one, not answered yet", x.envelope(1, 2), 0);
        DUE.is("send(1, 0, 3)", x.send(1, 0, 3), 2);
        DUE.is("a FURTHER one from the one who did not begin", x.envelope(2, 2), 1);
        DUE.is("its sender", x.envelope(2, 0), 1);
        DUE.is("its receiver", x.envelope(2, 1), 0);
        for (int field = 3; field < 7; field++) {
            DUE.is("envelope(2, " + field + ")", x.envelope(2, field), 0);
        }
        DUE.is("pn", x.envelope(2, 9), 0);
        DUE.is("open(2)", x.open(2), 0);
        DUE.is("send(0, 1, 4)", x.send(0, 1, 4), 3);
        DUE.is("a FURTHER one, as it was answered", x.envelope(3, 2), 1);
        DUE.is("n of the new chain", x.envelope(3, 8), 0);
        DUE.is("pn, two having been sent before", x.envelope(3, 9), 2);
        DUE.is("the identity does not stand in it", x.envelope(3, 3), 0);
        DUE.is("begin(0, 1)", x.begin(0, 1), 0);
        DUE.is("send(0, 1, 5)", x.send(0, 1, 5), 4);
        DUE.is("a FIRST one in the new session", x.envelope(4, 2), 0);
        DUE.is("without a one-time key", x.envelope(4, 6), 0);
    }

    private static void sendingWrongly() {
        RatchetPost x = begun();
        DUE.is("send(1, 0, 1), without a session", x.send(1, 0, 1), -1);
        DUE.is("send(0, 0, 1)", x.send(0, 0, 1), -1);
        DUE.is("send(0, 2, 1)", x.send(0, 2, 1), -1);
        DUE.is("send(2, 0, 1)", x.send(2, 0, 1), -1);
        DUE.is("send(-1, 0, 1)", x.send(-1, 0, 1), -1);
        DUE.is("send(0, -1, 1)", x.send(0, -1, 1), -1);
        DUE.is("send(4, 0, 1)", x.send(4, 0, 1), -1);
        DUE.is("send(0, 4, 1)", x.send(0, 4, 1), -1);
        DUE.is("no envelope", x.envelope(0, 0), -1);
        DUE.is("NS", x.session(0, 1, 0, 1), 0);
        DUE.is("send(0, 1, 1)", x.send(0, 1, 1), 0);
    }

    private static void sixtyEnvelopes() {
        RatchetPost x = begun();
        for (int i = 0; i < 60; i++) {
            DUE.is("send " + i, x.send(0, 1, i), i);
        }
        int root = x.session(0, 1, 0, 8);
        DUE.is("send a 61st", x.send(0, 1, 60), -1);
        DUE.is("copy a 61st", x.copy(0), -1);
        DUE.is("NS", x.session(0, 1, 0, 1), 60);
        DUE.is("root", x.session(0, 1, 0, 8), root);
        DUE.is("envelope(59, 8)", x.envelope(59, 8), 59);
        DUE.is("envelope(60, 8)", x.envelope(60, 8), -1);
        DUE.is("open(60)", x.open(60), -1);
        DUE.is("alter(60, 0, 1)", x.alter(60, 0, 1), false);
        DUE.is("open(8)", x.open(8), 0);
        DUE.is("text()", x.text(), 8);
    }

    private static void sixtyByCopies() {
        RatchetPost x = begun();
        x.send(0, 1, 99);
        for (int i = 1; i < 60; i++) {
            DUE.is("copy " + i, x.copy(i - 1), i);
        }
        DUE.is("copy a 61st", x.copy(3), -1);
        DUE.is("send a 61st", x.send(0, 1, 1), -1);
        DUE.is("open(59)", x.open(59), 0);
        DUE.is("text()", x.text(), 99);
        DUE.is("open(0)", x.open(0), 5);
    }

    private static void altering() {
        RatchetPost x = begun();
        x.send(0, 1, 7);
        x.send(0, 1, 8);
        for (int field = 0; field < 12; field++) {
            long before = x.envelope(0, field);
            long other = x.envelope(1, field);
            long mask = 0x8000000000000001L + field * 0x0101010101L;
            DUE.is("alter(0, " + field + ")", x.alter(0, field, mask), true);
            DUE.is("envelope(0, " + field + ")", x.envelope(0, field), before ^ mask);
            DUE.is("envelope(1, " + field + ")", x.envelope(1, field), other);
            DUE.is("alter(0, " + field + ")", x.alter(0, field, mask), true);
            DUE.is("envelope(0, " + field + ")", x.envelope(0, field), before);
        }
        DUE.is("alter(0, 3, 0)", x.alter(0, 3, 0), true);
        DUE.is("alter(0, -1, 1)", x.alter(0, -1, 1), false);
        DUE.is("alter(0, 12, 1)", x.alter(0, 12, 1), false);
        DUE.is("alter(-1, 0, 1)", x.alter(-1, 0, 1), false);
        DUE.is("alter(2, 0, 1)", x.alter(2, 0, 1), false);
        DUE.is("open(0)", x.open(0), 0);
        DUE.is("text()", x.text(), 7);
    }

    private static void copying() {
        RatchetPost x = begun();
        x.send(0, 1, 7);
        DUE.is("copy(-1)", x.copy(-1), -1);
        DUE.is("copy(1)", x.copy(1), -1);
        x.alter(0, 11, 64);
        DUE.is("copy(0)", x.copy(0), 1);
        for (int field = 0; field < 12; field++) {
            DUE.is("envelope(1, " + field + ")", x.envelope(1, field), x.envelope(0, field));
        }
        DUE.is("alter(1, 11, 64)", x.alter(1, 11, 64), true);
        DUE.is("the first one is another", x.envelope(0, 11), x.envelope(1, 11) ^ 64);
        DUE.is("open(0)", x.open(0), 1);
        DUE.is("open(1)", x.open(1), 0);
        DUE.is("copy(1), an opened one", x.copy(1), 2);
        DUE.is("open(2)", x.open(2), 5);
        DUE.is("send(0, 1, 1)", x.send(0, 1, 1), 3);
    }

    private static void theLatestText() {
        RatchetPost x = begun();
        x.register(2, 3000);
        x.begin(2, 0);
        DUE.is("text()", x.text(), 0);
        x.send(0, 1, -1);
        x.send(0, 1, Long.MAX_VALUE);
        x.send(2, 0, 12);
        DUE.is("text(), nothing opened", x.text(), 0);
        DUE.is("open(1)", x.open(1), 0);
        DUE.is("text()", x.text(), Long.MAX_VALUE);
        DUE.is("open(2)", x.open(2), 0);
        DUE.is("text(), of other users", x.text(), 12);
        DUE.is("open(0)", x.open(0), 0);
        DUE.is("text(), by a skipped key", x.text(), -1);
        DUE.is("open(1)", x.open(1), 5);
        DUE.is("text(), after one that fails", x.text(), -1);
        x.alter(2, 10, 1);
        DUE.is("open(2)", x.open(2), 5);
        DUE.is("text(), after one that fails", x.text(), -1);
    }

    private static void asking() {
        RatchetPost x = begun();
        x.send(0, 1, 7);
        DUE.is("envelope(0, -1)", x.envelope(0, -1), -1);
        DUE.is("envelope(0, 12)", x.envelope(0, 12), -1);
        DUE.is("envelope(-1, 0)", x.envelope(-1, 0), -1);
        DUE.is("envelope(1, 0)", x.envelope(1, 0), -1);
        DUE.is("alter(0, 9, -1)", x.alter(0, 9, -1), true);
        DUE.is("a field that is -1", x.envelope(0, 9), -1);
    }
}
