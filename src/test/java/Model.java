import java.math.BigInteger;
import java.util.ArrayList;
import java.util.HashMap;
import java.util.List;
import java.util.Map;

/**
 * The document told again, as literally as Java allows and in another way than the program: states are copied whole
 * before a try and put back after a failed one, and the new ratchet pair is drawn where the document draws it.
 */
final class Model {
    static final int P = 2147483647;
    private static final int[][] TURNS = {
        {0, 4, 8, 12}, {1, 5, 9, 13}, {2, 6, 10, 14}, {3, 7, 11, 15},
        {0, 5, 10, 15}, {1, 6, 11, 12}, {2, 7, 8, 13}, {3, 4, 9, 14}};

    record Pair(int secret, int shown) { }

    record Skipped(int ratchet, int number, int[] key) { }

    static final class Sess {
        int base, theirs, ns, nr, pn, s, o;
        int[] root, sending, receiving;
        Pair ratchet;
        List<Skipped> skipped = new ArrayList<>();
        boolean began, answered;

        Sess twin() {
            Sess t = new Sess();
            t.base = base;
            t.theirs = theirs;
            t.ns = ns;
            t.nr = nr;
            t.pn = pn;
            t.s = s;
            t.o = o;
            t.root = root;
            t.sending = sending;
            t.receiving = receiving;
            t.ratchet = ratchet;
            t.skipped = new ArrayList<>(skipped);
            t.began = began;
            t.answered = answered;
            return t;
        }
    }

    static final class Usr {
        int number, count;
        long entropy;
        Pair identity, signed, old;
        List<Pair> oneTime = new ArrayList<>();
        int x, s, r, sig;
        List<Integer> offered = new ArrayList<>();
        Map<Integer, List<Sess>> lists = new HashMap<>();

        List<Sess> list(int v) {
            return lists.computeIfAbsent(v, k -> new ArrayList<>());
        }
    }

    final Usr[] users = new Usr[4];
    final List<long[]> envelopes = new ArrayList<>();
    long text = 0;
    /** How often each way through begin and open was gone. */
    final Map<String, Integer> ways;

    Model(Map<String, Integer> ways) {
        this.ways = ways;
    }

    private void way(String name) {
        ways.merge(name, 1, Integer::sum);
    }

    static int[] mix(int[] k, int a, int b, int c, int d) {
        int[] w = {1634760805, 857760878, 2036477234, 1797285236,
            k[0], k[1], k[2], k[3], k[4], k[5], k[6], k[7], a, b, c, d};
        int[] first = w.clone();
        for (int i = 0; i < 10; i++) {
            for (int[] t : TURNS) {
                turnHalf(w, t, 16, 12);
                turnHalf(w, t, 8, 7);
            }
        }
        int[] key = new int[8];
        for (int i = 0; i < 8; i++) {
            key[i] = w[i] + first[i];
        }
        return key;
    }

    private static void turnHalf(int[] w, int[] t, int left, int leftThen) {
        w[t[0]] += w[t[1]];
        w[t[3]] = Integer.rotateLeft(w[t[3]] ^ w[t[0]], left);
        w[t[2]] += w[t[3]];
        w[t[1]] = Integer.rotateLeft(w[t[1]] ^ w[t[2]], leftThen);
    }

    static long wide(int[] key) {
        return ((long) key[0] << 32) + Integer.toUnsignedLong(key[1]);
    }

    static int pow(int b, int e) {
        return BigInteger.valueOf(b).modPow(BigInteger.valueOf(e), BigInteger.valueOf(P)).intValue();
    }

    static Pair pairOf(int secret) {
        return new Pair(secret, pow(7, secret));
    }

    static int hash(int x, int s, int r) {
        return mix(new int[8], x, s, r, 3)[0] >>> 1;
    }

    static int signature(int secret, int nonce, int h) {
        return BigInteger.valueOf(secret).multiply(BigInteger.valueOf(h)).add(BigInteger.valueOf(nonce))
            .mod(BigInteger.valueOf(P - 1)).intValue();
    }

    /** The pair that a user draws as its count becomes n. */
    static Pair drawn(int u, long entropy, int n) {
        int[] k = {(int) entropy, (int) (entropy >> 32), u, 0, 0, 0, 0, 0};
        int w = mix(k, n, 1, 0, 0)[0];
        return pairOf(2 + (w >>> 1) % (P - 3));
    }

    private static Pair draw(Usr u) {
        u.count++;
        return drawn(u.number, u.entropy, u.count);
    }

    private static void sign(Usr u) {
        Pair nonce = draw(u);
        u.x = u.identity.shown;
        u.s = u.signed.shown;
        u.r = nonce.shown;
        u.sig = signature(u.identity.secret, nonce.secret, hash(u.x, u.s, u.r));
    }

    private static boolean holds(Usr u) {
        for (int key : new int[] {u.x, u.s, u.r}) {
            if (key < 1 || key > P - 1) {
                return false;
            }
        }
        if (u.sig < 0 || u.sig > P - 2) {
            return false;
        }
        BigInteger right = BigInteger.valueOf(u.r).multiply(BigInteger.valueOf(pow(u.x, hash(u.x, u.s, u.r))));
        return pow(7, u.sig) == right.mod(BigInteger.valueOf(P)).intValue();
    }

    private Usr known(long u) {
        return u < 0 || u > 3 ? null : users[(int) u];
    }

    private boolean two(long u, long v) {
        return known(u) != null && known(v) != null && u != v;
    }

    boolean register(int u, long entropy) {
        if (u < 0 || u > 3 || users[u] != null) {
            return false;
        }
        Usr user = new Usr();
        user.number = u;
        user.entropy = entropy;
        user.identity = draw(user);
        user.signed = draw(user);
        sign(user);
        users[u] = user;
        return true;
    }

    boolean rotate(int u) {
        Usr user = known(u);
        if (user == null) {
            return false;
        }
        user.old = user.signed;
        user.signed = draw(user);
        sign(user);
        return true;
    }

    int prekeys(int u, int n) {
        Usr user = known(u);
        if (user == null || n < 1 || n > 6) {
            return -1;
        }
        int done = 0;
        while (done < n && user.offered.size() < 6 && user.oneTime.size() < 10) {
            Pair pair = draw(user);
            user.oneTime.add(pair);
            user.offered.add(pair.shown);
            done++;
        }
        return done;
    }

    boolean spoil(int u, int what, int mask) {
        Usr user = known(u);
        if (user == null || what < 0 || what > 3) {
            return false;
        }
        user.x ^= what == 0 ? mask : 0;
        user.s ^= what == 1 ? mask : 0;
        user.r ^= what == 2 ? mask : 0;
        user.sig ^= what == 3 ? mask : 0;
        return true;
    }

    private static int[] agreement(int[] shared, int a, int b, int o) {
        return mix(mix(new int[8], shared[0], shared[1], shared[2], shared[3]), a, b, 4, o);
    }

    private static int[] step(Sess s, int d) {
        int[] chain = mix(s.root, d, 6, 0, 0);
        s.root = mix(s.root, d, 5, 0, 0);
        return chain;
    }

    private void toFront(List<Sess> list, Sess s) {
        list.add(0, s);
        if (list.size() > 3) {
            list.remove(3);
            way("a fourth session");
        }
    }

    int begin(int a, int b) {
        if (!two(a, b)) {
            return -1;
        }
        Usr first = users[a];
        Usr other = users[b];
        int o = other.offered.isEmpty() ? 0 : other.offered.remove(0);
        if (!holds(other)) {
            way("begin: does not hold");
            return 1;
        }
        if (other.x != other.identity.shown) {
            way("begin: forged");
        }
        Pair e = draw(first);
        Sess s = new Sess();
        s.base = e.shown;
        s.s = other.s;
        s.o = o;
        s.began = true;
        int[] shared = {pow(other.s, first.identity.secret), pow(other.x, e.secret), pow(other.s, e.secret),
            o == 0 ? 0 : pow(o, e.secret)};
        s.root = agreement(shared, first.identity.shown, other.x, o);
        s.ratchet = draw(first);
        s.theirs = other.s;
        s.sending = step(s, pow(other.s, s.ratchet.secret));
        toFront(first.list(b), s);
        way(o == 0 ? "begin: without one-time key" : "begin: with one-time key");
        return 0;
    }

    private long tag(int[] m, long[] f) {
        int[] inner = mix(m, (int) f[7], (int) f[8], (int) f[9], (int) (f[10] >> 32));
        return wide(mix(inner, (int) f[10], users[(int) f[0]].identity.shown, users[(int) f[1]].identity.shown, 10));
    }

    int send(int a, int b, long newText) {
        if (!two(a, b) || users[a].list(b).isEmpty() || envelopes.size() >= 60) {
            return -1;
        }
        Sess s = users[a].list(b).get(0);
        int[] m = mix(s.sending, 7, 0, 0, 0);
        s.sending = mix(s.sending, 8, 0, 0, 0);
        boolean first = s.began && !s.answered;
        long[] f = {a, b, first ? 0 : 1, first ? users[a].identity.shown : 0, first ? s.base : 0, first ? s.s : 0,
            first ? s.o : 0, s.ratchet.shown, s.ns, s.pn, newText ^ wide(mix(m, 9, 0, 0, 0)), 0};
        f[11] = tag(m, f);
        s.ns++;
        envelopes.add(f);
        return envelopes.size() - 1;
    }

    private boolean there(int e, int field) {
        return e >= 0 && e < envelopes.size() && field >= 0 && field < 12;
    }

    boolean alter(int e, int field, long mask) {
        if (!there(e, field)) {
            return false;
        }
        envelopes.get(e)[field] ^= mask;
        return true;
    }

    int copy(int e) {
        if (!there(e, 0) || envelopes.size() >= 60) {
            return -1;
        }
        envelopes.add(envelopes.get(e).clone());
        return envelopes.size() - 1;
    }

    private static boolean within(long x, long low, long high) {
        return low <= x && x <= high;
    }

    private boolean malformed(long[] f) {
        return !two(f[0], f[1]) || !within(f[2], 0, 1) || !within(f[7], 2, P - 2) || !within(f[8], 0, 1000)
            || !within(f[9], 0, 1000)
            || f[2] == 0 && (f[3] != users[(int) f[0]].identity.shown || !within(f[4], 2, P - 2));
    }

    int open(int e) {
        if (!there(e, 0)) {
            return -1;
        }
        long[] f = envelopes.get(e);
        int answer = malformed(f) ? 4 : f[2] == 0 ? openFirst(f) : openFurther(f);
        way("open: " + answer);
        return answer;
    }

    private int openFirst(long[] f) {
        Usr to = users[(int) f[1]];
        List<Sess> list = to.list((int) f[0]);
        for (int k = 0; k < list.size(); k++) {
            if (list.get(k).base == f[4]) {
                return tryAt(to, list, k, f);
            }
        }
        Pair signed = f[5] == to.signed.shown ? to.signed : to.old != null && f[5] == to.old.shown ? to.old : null;
        Pair oneTime = null;
        for (int i = to.oneTime.size() - 1; i >= 0; i--) {
            oneTime = f[6] == to.oneTime.get(i).shown ? to.oneTime.get(i) : oneTime;
        }
        if (signed == null || oneTime == null && f[6] != 0) {
            way(signed == null ? "no prekey: signed" : "no prekey: one-time");
            return 3;
        }
        int a = (int) f[3];
        int eph = (int) f[4];
        Sess s = new Sess();
        s.base = eph;
        int[] shared = {pow(a, signed.secret), pow(eph, to.identity.secret), pow(eph, signed.secret),
            oneTime == null ? 0 : pow(eph, oneTime.secret)};
        s.root = agreement(shared, a, to.identity.shown, (int) f[6]);
        s.ratchet = signed;
        int before = to.count;
        int answer = attempt(to, s, f);
        if (answer != 0) {
            to.count = before;
            return answer;
        }
        way(signed == to.signed ? "opened with the signed pair" : "opened with the old signed pair");
        way(oneTime == null ? "opened without a one-time pair" : "opened with a one-time pair");
        toFront(list, s);
        to.oneTime.remove(oneTime);
        return 0;
    }

    private int openFurther(long[] f) {
        Usr to = users[(int) f[1]];
        List<Sess> list = to.list((int) f[0]);
        int answer = 6;
        for (int k = 0; k < list.size(); k++) {
            int given = tryAt(to, list, k, f);
            if (given == 0) {
                list.add(0, list.remove(k));
                way("opened by session " + k);
                return 0;
            }
            answer = k == 0 ? given : answer;
        }
        return answer;
    }

    private int tryAt(Usr to, List<Sess> list, int k, long[] f) {
        Sess twin = list.get(k).twin();
        int before = to.count;
        int answer = attempt(to, twin, f);
        if (answer == 0) {
            list.set(k, twin);
            if (f[2] == 0) {
                way("opened a FIRST one by session " + k);
            }
        } else {
            to.count = before;
        }
        return answer;
    }

    private static int[] take(Sess s) {
        int[] m = mix(s.receiving, 7, 0, 0, 0);
        s.receiving = mix(s.receiving, 8, 0, 0, 0);
        return m;
    }

    private int opened(Sess s, long[] f, int[] m) {
        text = f[10] ^ wide(mix(m, 9, 0, 0, 0));
        s.answered = true;
        return 0;
    }

    private int attempt(Usr to, Sess s, long[] f) {
        int n = (int) f[8];
        int pn = (int) f[9];
        for (Skipped kept : s.skipped) {
            if (kept.ratchet == f[7] && kept.number == n) {
                if (tag(kept.key, f) != f[11]) {
                    way("skipped key: false");
                    return 1;
                }
                way("skipped key: opened");
                s.skipped.remove(kept);
                return opened(s, f, kept.key);
            }
        }
        if (f[7] != s.theirs) {
            if (s.receiving != null && pn > s.nr) {
                if (pn - s.nr > 8) {
                    way("too far: pn");
                    return 2;
                }
                for (int i = s.nr; i < pn; i++) {
                    s.skipped.add(new Skipped(s.theirs, i, take(s)));
                }
                way("skipped before a turn");
            }
            s.pn = s.ns;
            s.ns = 0;
            s.nr = 0;
            s.theirs = (int) f[7];
            s.receiving = step(s, pow(s.theirs, s.ratchet.secret));
            s.ratchet = draw(to);
            s.sending = step(s, pow(s.theirs, s.ratchet.secret));
        }
        if (s.receiving == null) {
            way("false: no receiving chain");
            return 1;
        }
        if (n < s.nr) {
            return 5;
        }
        if (n - s.nr > 8) {
            way("too far: n");
            return 2;
        }
        for (int i = s.nr; i < n; i++) {
            s.skipped.add(new Skipped(s.theirs, i, take(s)));
        }
        if (s.skipped.size() > 12) {
            way("too far: more than 12");
            return 2;
        }
        int[] m = take(s);
        s.nr = n + 1;
        if (tag(m, f) != f[11]) {
            way("false: tag");
            return 1;
        }
        return opened(s, f, m);
    }

    long envelope(int e, int field) {
        return there(e, field) ? envelopes.get(e)[field] : -1;
    }

    int user(int u, int what) {
        Usr user = known(u);
        if (user == null || what < 0 || what > 9) {
            return -1;
        }
        return new int[] {user.identity.shown, user.signed.shown, user.old == null ? 0 : user.old.shown, user.count,
            user.oneTime.size(), user.offered.size(), user.x, user.s, user.r, user.sig}[what];
    }

    int sessions(int u, int v) {
        return two(u, v) ? users[u].list(v).size() : -1;
    }

    int session(int u, int v, int k, int what) {
        if (k < 0 || k >= sessions(u, v) || what < 0 || what > 8) {
            return -1;
        }
        Sess s = users[u].list(v).get(k);
        return new int[] {s.base, s.ns, s.nr, s.pn, s.skipped.size(), s.theirs, s.ratchet.shown,
            s.began && !s.answered ? 1 : 0, s.root[0]}[what];
    }

    int power(int b, int e) {
        return within(b, 0, P - 1) && within(e, 0, P - 1) ? pow(b, e) : -1;
    }

    long mix(long x, int a, int b) {
        return wide(mix(new int[] {(int) (x >> 32), (int) x, 1, 2, 3, 4, 5, 6}, a, b, 0, 0));
    }
}
