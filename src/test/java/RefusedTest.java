import java.util.function.Consumer;
import java.util.function.Function;

/**
 * "A refused call (NONE, false) .. changes nothing", for each call that can be refused and each reason that the
 * document names (promises 2 to 10 and 12 to 16). Each refused call has an object of its own, which is looked at
 * before and after it, and used further.
 */
public final class RefusedTest {
    private static final int LEAST = Integer.MIN_VALUE;
    private static final int MOST = Integer.MAX_VALUE;
    /** The first on each side of 0 .. 3, the farthest, and what a narrower number would take for 0. */
    private static final int[] NO_USERS = {-1, 4, LEAST, MOST, 256, 65536};
    private static final Due DUE = new Due("RefusedTest");

    public static void main(String[] args) {
        onAFreshObject();
        register();
        rotate();
        prekeys();
        spoil();
        begin();
        send();
        sendWithoutASession();
        alter();
        copy();
        open();
        asking();
        whenThereAreSixty();
        DUE.end();
    }

    private static void refused(Function<Due, Desk> state, String what, Consumer<Desk> call) {
        Desk desk = state.apply(DUE);
        desk.unchangedBy(what, call);
        desk.goOn();
    }

    private static void refused(String what, Consumer<Desk> call) {
        refused(States::busy, what, call);
    }

    /** Promise 1: with nobody registered and no envelopes, every call that names a user or an envelope is refused. */
    private static void onAFreshObject() {
        refused(States::fresh, "calls on a fresh object", desk -> {
            for (int u = -1; u < 5; u++) {
                desk.rotate(u, false);
                desk.prekeys(u, 1, -1);
                desk.spoil(u, 0, 1, false);
                desk.begin(u, 0, -1);
                desk.begin(0, u, -1);
                desk.send(u, 0, 1, -1);
                desk.send(0, u, 1, -1);
                desk.alter(u, 0, 1, false);
                desk.copy(u, -1);
                desk.open(u, -1);
                desk.envelope(u, 0, -1);
                desk.user(u, 0, -1);
                desk.sessions(u, 0, -1);
                desk.sessions(0, u, -1);
                desk.session(u, 0, 0, 0, -1);
                desk.session(0, u, 0, 0, -1);
            }
        });
    }

    /** Promise 2: "false when there is no such user, or it is registered." */
    private static void register() {
        for (int u : NO_USERS) {
            refused("no such user " + u, desk -> desk.register(u, 5, false));
        }
        for (int u : new int[] {0, 1, 3}) {
            refused("registered with another entropy: " + u, desk -> desk.register(u, -77, false));
        }
        refused("registered with the same entropy", desk -> desk.register(0, 1001, false));
    }

    /** Promise 3: "false when u is not registered." */
    private static void rotate() {
        refused("rotate(2), not registered", desk -> desk.rotate(2, false));
        for (int u : NO_USERS) {
            refused("no such user " + u, desk -> desk.rotate(u, false));
        }
    }

    /** Promise 4: "NONE when u is not registered or n is not 1 .. 6." */
    private static void prekeys() {
        refused("prekeys(2, 1), not registered", desk -> desk.prekeys(2, 1, -1));
        for (int u : NO_USERS) {
            refused("no such user " + u, desk -> desk.prekeys(u, 1, -1));
        }
        for (int n : new int[] {0, 7, -1, LEAST, MOST}) {
            refused("n is " + n, desk -> desk.prekeys(1, n, -1));
            refused("n is " + n + " with an empty entry", desk -> desk.prekeys(0, n, -1));
        }
    }

    /** Promise 5: "false when u is not registered or what is not 0 .. 3." */
    private static void spoil() {
        refused("spoil(2, 0, 1), not registered", desk -> desk.spoil(2, 0, 1, false));
        for (int u : NO_USERS) {
            refused("no such user " + u, desk -> desk.spoil(u, 0, 1, false));
        }
        for (int what : new int[] {-1, 4, LEAST, MOST}) {
            refused("what is " + what, desk -> desk.spoil(1, what, -1, false));
        }
    }

    /** Promise 6: "NONE when a or b is not registered, or they are the same." */
    private static void begin() {
        refused("a is not registered", desk -> desk.begin(2, 1, -1));
        refused("b is not registered", desk -> desk.begin(1, 2, -1));
        refused("neither is registered", desk -> desk.begin(2, 2, -1));
        for (int u : NO_USERS) {
            refused("a is no user: " + u, desk -> desk.begin(u, 1, -1));
            refused("b is no user: " + u, desk -> desk.begin(1, u, -1));
        }
        for (int u : new int[] {0, 1, 3}) {
            refused("both are " + u, desk -> desk.begin(u, u, -1));
        }
    }

    /** Promise 7: "NONE when a or b is not registered". */
    private static void send() {
        refused("a is not registered", desk -> desk.send(2, 1, 7, -1));
        refused("b is not registered", desk -> desk.send(0, 2, 7, -1));
        for (int u : NO_USERS) {
            refused("a is no user: " + u, desk -> desk.send(u, 1, 7, -1));
            refused("b is no user: " + u, desk -> desk.send(0, u, 7, -1));
        }
    }

    /** Promise 7: "NONE when .. a has no session with b"; nobody has one with itself. */
    private static void sendWithoutASession() {
        refused("1 has none for 3, though 3 has one for 1", desk -> desk.send(1, 3, 7, -1));
        refused("0 and 3 have none", desk -> desk.send(0, 3, 7, -1));
        refused("3 and 0 have none", desk -> desk.send(3, 0, 7, -1));
        for (int u : new int[] {0, 1, 3}) {
            refused("both are " + u, desk -> desk.send(u, u, 7, -1));
        }
        refused(States::fourUsers, "users without any session", desk -> {
            for (int a = 0; a < 4; a++) {
                for (int b = 0; b < 4; b++) {
                    desk.send(a, b, 7, -1);
                }
            }
        });
    }

    /** Promise 8: "false when there is no such envelope or field." */
    private static void alter() {
        for (int e : new int[] {-1, 9, 59, 60, 256, LEAST, MOST}) {
            refused("no envelope " + e, desk -> desk.alter(e, 11, 1, false));
        }
        for (int field : new int[] {-1, 12, 256, LEAST, MOST}) {
            refused("no field " + field, desk -> desk.alter(0, field, 1, false));
            refused("no field " + field + " of the last one", desk -> desk.alter(8, field, 1, false));
        }
    }

    /** Promise 9: "NONE when there is no envelope e". */
    private static void copy() {
        for (int e : new int[] {-1, 9, 59, 60, 256, LEAST, MOST}) {
            refused("no envelope " + e, desk -> desk.copy(e, -1));
        }
    }

    /** Promise 10: "NONE when there is no such envelope." */
    private static void open() {
        for (int e : new int[] {-1, 9, 59, 60, 256, LEAST, MOST}) {
            refused("no envelope " + e, desk -> desk.open(e, -1));
        }
    }

    /** Promises 11 to 17: what is asked, rightly or wrongly, is not changed by it. */
    private static void asking() {
        refused("questions", desk -> {
            desk.text(200);
            desk.envelope(0, -1, -1);
            desk.envelope(0, 12, -1);
            desk.envelope(0, LEAST, -1);
            desk.envelope(-1, 0, -1);
            desk.envelope(9, 0, -1);
            desk.envelope(MOST, MOST, -1);
            desk.user(2, 0, -1);
            desk.user(0, -1, -1);
            desk.user(0, 10, -1);
            desk.user(0, MOST, -1);
            desk.sessions(0, 2, -1);
            desk.sessions(1, 1, -1);
            desk.session(0, 1, 2, 0, -1);
            desk.session(0, 1, -1, 0, -1);
            desk.session(0, 1, 0, 9, -1);
            desk.session(0, 1, 0, -1, -1);
            desk.power(-1, 3, -1);
            desk.power(3, -1, -1);
            desk.power(5, 3, 125);
            desk.mix(0, 1, 2, 268265624592589423L);
        });
    }

    /** Promises 7 and 9: "NONE when .. there are 60 envelopes". */
    private static void whenThereAreSixty() {
        refused(States::full, "send by the one who began", desk -> desk.send(0, 1, 7, -1));
        refused(States::full, "send by the other one", desk -> desk.send(1, 0, 7, -1));
        refused(States::full, "copy the first", desk -> desk.copy(0, -1));
        refused(States::full, "copy the last", desk -> desk.copy(59, -1));
        refused(States::full, "copy what is not there", desk -> desk.copy(60, -1));
        refused(States::full, "alter what is not there", desk -> desk.alter(60, 0, 1, false));
        refused(States::full, "open what is not there", desk -> desk.open(60, -1));
    }
}
