import java.util.Map;
import java.util.Random;
import java.util.TreeMap;

/** Runs of 512 calls, the same on the program and on the model, with every answer compared (promises 1 to 17). */
public final class RandomRunsTest {
    private static final int RUNS = 400;
    private static final int CALLS = 512;
    private static final String[] WAYS = {
        "a fourth session", "begin: does not hold", "begin: forged", "begin: with one-time key",
        "begin: without one-time key", "false: no receiving chain", "false: tag", "no prekey: one-time",
        "no prekey: signed", "open: 0", "open: 1", "open: 2", "open: 3", "open: 4", "open: 5", "open: 6",
        "opened a FIRST one by session 0", "opened a FIRST one by session 1", "opened a FIRST one by session 2",
        "opened by session 0", "opened by session 1", "opened by session 2", "opened with a one-time pair",
        "opened with the old signed pair", "opened with the signed pair", "opened without a one-time pair",
        "skipped before a turn", "skipped key: false", "skipped key: opened", "too far: more than 12", "too far: n",
        "too far: pn"};

    private final Due due;
    private final Random random;
    private final RatchetPost post = new RatchetPost();
    private final Model model;
    private final int users;
    private final int wildness;
    private int calls = 0;
    private int a;
    private int b;

    private RandomRunsTest(Due due, int seed, Map<String, Integer> ways) {
        this.due = due;
        this.random = new Random(seed);
        this.model = new Model(ways);
        this.users = 2 + seed % 3;
        this.wildness = seed % 5;
    }

    public static void main(String[] args) {
        Due due = new Due("RandomRunsTest");
        Map<String, Integer> ways = new TreeMap<>();
        for (int seed = 0; seed < RUNS; seed++) {
            new RandomRunsTest(due, seed, ways).run();
        }
        for (String way : WAYS) {
            due.is("the way «" + way + "» was gone", ways.getOrDefault(way, 0) > 0, true);
        }
        due.end();
    }

    private void run() {
        for (int u = 0; u < users; u++) {
            register(u, random.nextLong());
        }
        while (calls < CALLS - 30) {
            a = random.nextInt(users);
            b = (a + 1 + random.nextInt(users - 1)) % users;
            act(random.nextInt(100));
            look();
        }
        while (calls < CALLS) {
            a = random.nextInt(users);
            b = (a + 1 + random.nextInt(users - 1)) % users;
            look();
        }
    }

    private void act(int dice) {
        if (dice < 24) {
            burst();
        } else if (dice < 62) {
            open(somewhere());
        } else if (dice < 70) {
            begin(a, b);
        } else if (dice < 73) {
            rotate(a);
        } else if (dice < 77) {
            prekeys(a, 1 + random.nextInt(6));
        } else if (dice < 80) {
            copy(somewhere());
        } else if (dice < 82) {
            wrong();
        } else if (dice < 84) {
            spoilAndMend();
        } else if (dice < 85) {
            forge();
        } else if (random.nextInt(5) < wildness) {
            alterAndOpen();
        }
    }

    private void burst() {
        int most = random.nextInt(3) == 0 ? 7 : 2;
        for (int i = random.nextInt(most); i >= 0; i--) {
            send(a, b, random.nextLong());
        }
    }

    private int somewhere() {
        int size = model.envelopes.size();
        int near = 1 + random.nextInt(8);
        return random.nextInt(3) > 0 ? size - near : random.nextInt(size + 2);
    }

    private void spoilAndMend() {
        int what = random.nextInt(4);
        int mask = random.nextBoolean() ? random.nextInt() : 1 << random.nextInt(32);
        spoil(b, what, mask);
        begin(a, b);
        if (random.nextInt(4) > 0) {
            spoil(b, what, mask);
        }
    }

    /** An entry with the signature of a stranger, which holds. */
    private void forge() {
        Model.Pair x = Model.pairOf(2 + random.nextInt(Model.P - 3));
        Model.Pair r = Model.pairOf(2 + random.nextInt(Model.P - 3));
        int s = 1 + random.nextInt(Model.P - 1);
        int sig = Model.signature(x.secret(), r.secret(), Model.hash(x.shown(), s, r.shown()));
        int[] wanted = {x.shown(), s, r.shown(), sig};
        int[] masks = new int[4];
        for (int what = 0; what < 4; what++) {
            masks[what] = wanted[what] ^ model.user(b, 6 + what);
            spoil(b, what, masks[what]);
        }
        begin(a, b);
        send(a, b, 5);
        open(model.envelopes.size() - 1);
        for (int what = 0; what < 4 && random.nextInt(9) > 0; what++) {
            spoil(b, what, masks[what]);
        }
    }

    private void alterAndOpen() {
        int e = somewhere();
        int field = random.nextInt(12);
        long now = model.envelope(e, field);
        long mask = now ^ anotherValue(e, field);
        alter(e, field, mask);
        open(e);
        if (random.nextInt(6) > 0) {
            alter(e, field, mask);
            if (random.nextBoolean()) {
                open(e);
            }
        }
    }

    private long anotherValue(int e, int field) {
        int to = (int) model.envelope(e, 1);
        int from = (int) model.envelope(e, 0);
        long now = model.envelope(e, field);
        switch (random.nextInt(6)) {
            case 0:
                return random.nextLong();
            case 1:
                return now ^ 1L << random.nextInt(64);
            case 2:
                return field == 7 ? model.session(to, from, 0, 5) : now + random.nextInt(21) - 10;
            case 3:
                return field == 4 ? model.session(to, from, random.nextInt(3), 0) : random.nextInt(12);
            case 4:
                return field == 5 ? model.user(to, 1 + random.nextInt(2)) : random.nextInt(1010);
            default:
                return model.envelope(random.nextInt(60), field);
        }
    }

    private void wrong() {
        int far = random.nextBoolean() ? -1 - random.nextInt(3) : 4 + random.nextInt(3);
        switch (random.nextInt(14)) {
            case 0 -> register(random.nextInt(users), 5);
            case 1 -> register(far, 5);
            case 2 -> rotate(far);
            case 3 -> prekeys(far, 3);
            case 4 -> prekeys(a, random.nextBoolean() ? 0 : 7);
            case 5 -> spoil(far, 0, 1);
            case 6 -> spoil(a, far, 1);
            case 7 -> begin(a, a);
            case 8 -> begin(far, a);
            case 9 -> begin(a, far);
            case 10 -> send(a, a, 3);
            case 11 -> send(a, far, 3);
            case 12 -> alter(far * 40, 3, 9);
            default -> alter(0, far * 5, 9);
        }
    }

    private void look() {
        int what = random.nextInt(12) - 1;
        int k = random.nextInt(5) - 1;
        switch (random.nextInt(10)) {
            case 0, 1 -> ask("session", post.session(a, b, k, what), model.session(a, b, k, what));
            case 2, 3 -> ask("root", post.session(a, b, 0, 8), model.session(a, b, 0, 8));
            case 4 -> ask("sessions", post.sessions(a, b), model.sessions(a, b));
            case 5 -> ask("user", post.user(a, what), model.user(a, what));
            case 6 -> ask("text", post.text(), model.text);
            case 7 -> {
                int e = somewhere();
                int field = random.nextInt(14) - 1;
                ask("envelope", post.envelope(e, field), model.envelope(e, field));
            }
            case 8 -> {
                int base = random.nextInt();
                int exponent = random.nextInt() >>> random.nextInt(32);
                ask("power", post.power(base, exponent), model.power(base, exponent));
            }
            default -> {
                long x = random.nextLong();
                ask("mix", post.mix(x, what, k), model.mix(x, what, k));
            }
        }
    }

    private void ask(String call, long got, long want) {
        calls++;
        if (calls <= CALLS) {
            due.is(call + " (call " + calls + ")", got, want);
        }
    }

    private void ask(String call, boolean got, boolean want) {
        ask(call, got ? 1L : 0L, want ? 1L : 0L);
    }

    private void register(int u, long entropy) {
        ask("register", post.register(u, entropy), model.register(u, entropy));
    }

    private void rotate(int u) {
        ask("rotate", post.rotate(u), model.rotate(u));
    }

    private void prekeys(int u, int n) {
        ask("prekeys", post.prekeys(u, n), model.prekeys(u, n));
    }

    private void spoil(int u, int what, int mask) {
        ask("spoil", post.spoil(u, what, mask), model.spoil(u, what, mask));
    }

    private void begin(int u, int v) {
        ask("begin", post.begin(u, v), model.begin(u, v));
    }

    private void send(int u, int v, long text) {
        ask("send", post.send(u, v, text), model.send(u, v, text));
    }

    private void alter(int e, int field, long mask) {
        ask("alter", post.alter(e, field, mask), model.alter(e, field, mask));
    }

    private void copy(int e) {
        ask("copy", post.copy(e), model.copy(e));
    }

    private void open(int e) {
        ask("open", post.open(e), model.open(e));
    }
}
