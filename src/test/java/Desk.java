import java.util.ArrayList;
import java.util.List;
import java.util.TreeMap;
import java.util.function.Consumer;
import java.util.stream.IntStream;

/**
 * The program and the model side by side: every call goes to both, and the answers must be alike. So a call that
 * leaves behind what it should not is told by the calls after it, also where nothing shows it at once (a chain, a
 * private key). A call with one argument more is also compared with the answer that is due, which the test has written.
 */
final class Desk {
    /** What later calls answer is free, so a test that goes on beyond them would prove nothing. */
    private static final int MOST_CALLS = 512;
    private static final int FIRST_SEEN = 5;
    private static final int LAST_SEEN = 4;

    private final Due due;
    private final RatchetPost post = new RatchetPost();
    private final Model model = new Model(new TreeMap<>());
    private int calls = 0;

    Desk(Due due) {
        this.due = due;
    }

    private long both(String call, long got, long modelled) {
        calls++;
        if (calls > MOST_CALLS) {
            due.is("number of calls at " + call, calls, MOST_CALLS);
        }
        due.is(call + " beside the model", got, modelled);
        return got;
    }

    private boolean both(String call, boolean got, boolean modelled) {
        return both(call, got ? 1L : 0L, modelled ? 1L : 0L) == 1;
    }

    int calls() {
        return calls;
    }

    int envelopes() {
        return model.envelopes.size();
    }

    boolean register(int u, long entropy) {
        return both("register(" + u + ", " + entropy + ")", post.register(u, entropy), model.register(u, entropy));
    }

    void register(int u, long entropy, boolean want) {
        due.is("register(" + u + ", " + entropy + ")", register(u, entropy), want);
    }

    boolean rotate(int u) {
        return both("rotate(" + u + ")", post.rotate(u), model.rotate(u));
    }

    void rotate(int u, boolean want) {
        due.is("rotate(" + u + ")", rotate(u), want);
    }

    int prekeys(int u, int n) {
        return (int) both("prekeys(" + u + ", " + n + ")", post.prekeys(u, n), model.prekeys(u, n));
    }

    void prekeys(int u, int n, int want) {
        due.is("prekeys(" + u + ", " + n + ")", prekeys(u, n), want);
    }

    boolean spoil(int u, int what, int mask) {
        return both("spoil(" + u + ", " + what + ", " + mask + ")", post.spoil(u, what, mask),
            model.spoil(u, what, mask));
    }

    void spoil(int u, int what, int mask, boolean want) {
        due.is("spoil(" + u + ", " + what + ", " + mask + ")", spoil(u, what, mask), want);
    }

    int begin(int a, int b) {
        return (int) both("begin(" + a + ", " + b + ")", post.begin(a, b), model.begin(a, b));
    }

    void begin(int a, int b, int want) {
        due.is("begin(" + a + ", " + b + ")", begin(a, b), want);
    }

    int send(int a, int b, long text) {
        return (int) both("send(" + a + ", " + b + ", " + text + ")", post.send(a, b, text), model.send(a, b, text));
    }

    void send(int a, int b, long text, int want) {
        due.is("send(" + a + ", " + b + ", " + text + ")", send(a, b, text), want);
    }

    boolean alter(int e, int field, long mask) {
        return both("alter(" + e + ", " + field + ", " + mask + ")", post.alter(e, field, mask),
            model.alter(e, field, mask));
    }

    void alter(int e, int field, long mask, boolean want) {
        due.is("alter(" + e + ", " + field + ", " + mask + ")", alter(e, field, mask), want);
    }

    int copy(int e) {
        return (int) both("copy(" + e + ")", post.copy(e), model.copy(e));
    }

    void copy(int e, int want) {
        due.is("copy(" + e + ")", copy(e), want);
    }

    int open(int e) {
        return (int) both("open(" + e + ")", post.open(e), model.open(e));
    }

    void open(int e, int want) {
        due.is("open(" + e + ")", open(e), want);
    }

    long text() {
        return both("text()", post.text(), model.text);
    }

    void text(long want) {
        due.is("text()", text(), want);
    }

    long envelope(int e, int field) {
        return both("envelope(" + e + ", " + field + ")", post.envelope(e, field), model.envelope(e, field));
    }

    void envelope(int e, int field, long want) {
        due.is("envelope(" + e + ", " + field + ")", envelope(e, field), want);
    }

    int user(int u, int what) {
        return (int) both("user(" + u + ", " + what + ")", post.user(u, what), model.user(u, what));
    }

    void user(int u, int what, int want) {
        due.is("user(" + u + ", " + what + ")", user(u, what), want);
    }

    int sessions(int u, int v) {
        return (int) both("sessions(" + u + ", " + v + ")", post.sessions(u, v), model.sessions(u, v));
    }

    void sessions(int u, int v, int want) {
        due.is("sessions(" + u + ", " + v + ")", sessions(u, v), want);
    }

    int session(int u, int v, int k, int what) {
        return (int) both("session(" + u + ", " + v + ", " + k + ", " + what + ")", post.session(u, v, k, what),
            model.session(u, v, k, what));
    }

    void session(int u, int v, int k, int what, int want) {
        due.is("session(" + u + ", " + v + ", " + k + ", " + what + ")", session(u, v, k, what), want);
    }

    int power(int b, int e) {
        return (int) both("power(" + b + ", " + e + ")", post.power(b, e), model.power(b, e));
    }

    void power(int b, int e, int want) {
        due.is("power(" + b + ", " + e + ")", power(b, e), want);
    }

    long mix(long x, int a, int b) {
        return both("mix(" + x + ", " + a + ", " + b + ")", post.mix(x, a, b), model.mix(x, a, b));
    }

    void mix(long x, int a, int b, long want) {
        due.is("mix(" + x + ", " + a + ", " + b + ")", mix(x, a, b), want);
    }

    /** Envelopes with the texts 100, 101, ..; answers the number of the first. */
    int sendMany(int a, int b, int many) {
        int first = envelopes();
        for (int i = 0; i < many; i++) {
            send(a, b, 100 + i);
        }
        return first;
    }

    void write(int e, int field, long value) {
        alter(e, field, envelope(e, field) ^ value);
    }

    void writeEntry(int u, int what, int value) {
        spoil(u, what, user(u, 6 + what) ^ value);
    }

    /** Opens an envelope with a field written over, and puts the field back. */
    void openWith(int e, int field, long value, int want) {
        long mask = envelope(e, field) ^ value;
        alter(e, field, mask);
        due.is("open(" + e + ") with " + value + " as field " + field, open(e), want);
        alter(e, field, mask);
    }

    /** The calls that only look must show the same before and after this. */
    void unchangedBy(String what, Consumer<Desk> act) {
        List<Long> before = seen();
        act.accept(this);
        List<Long> after = seen();
        due.is(what + ": as much is there as before", after.size(), before.size());
        for (int i = 0; i < Math.min(before.size(), after.size()); i++) {
            due.is(what + ": what is seen at place " + i, after.get(i), before.get(i));
        }
    }

    private List<Long> seen() {
        List<Long> all = new ArrayList<>();
        all.add(text());
        for (int u = 0; u < 4; u++) {
            boolean there = user(u, 0) != -1;
            for (int what = 0; there && what < 10; what++) {
                all.add((long) user(u, what));
            }
            for (int v = 0; there && v < 4; v++) {
                seeSessions(all, u, v);
            }
        }
        all.add(envelope(envelopes(), 0));
        for (int e : watched()) {
            for (int field = 0; field < 12; field++) {
                all.add(envelope(e, field));
            }
        }
        return all;
    }

    /** All envelopes would be more than the calls that one object has; those at both ends tell enough. */
    private int[] watched() {
        int kept = envelopes();
        return IntStream.range(0, kept).filter(e -> e < FIRST_SEEN || e >= kept - LAST_SEEN).toArray();
    }

    private void seeSessions(List<Long> all, int u, int v) {
        int count = sessions(u, v);
        all.add((long) count);
        for (int k = 0; k < count; k++) {
            for (int what = 0; what < 9; what++) {
                all.add((long) session(u, v, k, what));
            }
        }
    }

    /** Uses what no call shows: the kept envelopes are opened, every active session seals, every user draws. */
    void goOn() {
        for (int e : watched()) {
            if (open(e) == 0) {
                text();
            }
        }
        for (int a = 0; a < 4; a++) {
            for (int b = 0; b < 4; b++) {
                if (a != b && model.sessions(a, b) > 0) {
                    sealAndOpen(a, b);
                }
            }
        }
        for (int u = 0; u < 4; u++) {
            if (rotate(u)) {
                user(u, 9);
                prekeys(u, 6);
                user(u, 3);
            }
        }
    }

    private void sealAndOpen(int a, int b) {
        int e = send(a, b, 0x0123456789ABCDEFL);
        if (e != -1) {
            envelope(e, 10);
            envelope(e, 11);
            open(e);
            text();
        }
    }
}
