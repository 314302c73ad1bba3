/** Promises 14 (sessions) and 15 (session). */
public final class SessionsTest {
    private static final Due DUE = new Due("SessionsTest");

    public static void main(String[] args) {
        counting();
        countingWrongly();
        asking();
        askingWrongly();
        pairsHaveListsOfTheirOwn();
        aNewSessionTakesNothingOver();
        DUE.end();
    }

    private static RatchetPost threeUsers() {
        RatchetPost x = new RatchetPost();
        x.register(0, 11);
        x.register(1, 12);
        x.register(3, 13);
        return x;
    }

    private static void counting() {
        RatchetPost x = threeUsers();
        DUE.is("sessions(0, 1)", x.sessions(0, 1), 0);
        for (int i = 1; i < 6; i++) {
            x.begin(0, 1);
            x.send(0, 1, i);
            DUE.is("sessions(0, 1)", x.sessions(0, 1), Math.min(i, 3));
            DUE.is("sessions(1, 0)", x.sessions(1, 0), Math.min(i - 1, 3));
            DUE.is("open", x.open(i - 1), 0);
            DUE.is("sessions(1, 0)", x.sessions(1, 0), Math.min(i, 3));
        }
    }

    private static void countingWrongly() {
        RatchetPost x = threeUsers();
        DUE.is("sessions(0, 0)", x.sessions(0, 0), -1);
        DUE.is("sessions(0, 2)", x.sessions(0, 2), -1);
        DUE.is("sessions(2, 0)", x.sessions(2, 0), -1);
        DUE.is("sessions(2, 2)", x.sessions(2, 2), -1);
        DUE.is("sessions(-1, 0)", x.sessions(-1, 0), -1);
        DUE.is("sessions(0, -1)", x.sessions(0, -1), -1);
        DUE.is("sessions(4, 0)", x.sessions(4, 0), -1);
        DUE.is("sessions(0, 4)", x.sessions(0, 4), -1);
    }

    private static void has(RatchetPost x, int u, int v, long... want) {
        for (int what = 0; what < want.length; what++) {
            DUE.is("session(" + u + ", " + v + ", 0, " + what + ")", x.session(u, v, 0, what), want[what]);
        }
    }

    private static void asking() {
        RatchetPost x = threeUsers();
        x.begin(0, 3);
        for (int i = 0; i < 5; i++) {
            x.send(0, 3, i);
        }
        int base = Model.drawn(0, 11, 4).shown();
        int first = Model.drawn(0, 11, 5).shown();
        has(x, 0, 3, base, 5, 0, 0, 0, x.user(3, 1), first, 1);
        DUE.is("open(3)", x.open(3), 0);
        int second = Model.drawn(3, 13, 4).shown();
        has(x, 3, 0, base, 0, 4, 0, 3, first, second, 0);
        DUE.is("the receiver has stepped once more", x.session(3, 0, 0, 8) == x.session(0, 3, 0, 8), false);
        x.send(3, 0, 6);
        has(x, 3, 0, base, 1, 4, 0, 3, first, second, 0);
        DUE.is("open(5)", x.open(5), 0);
        int third = Model.drawn(0, 11, 6).shown();
        has(x, 0, 3, base, 0, 1, 5, 0, second, third, 0);
    }

    private static void askingWrongly() {
        RatchetPost x = threeUsers();
        x.begin(0, 1);
        DUE.is("session(0, 1, 0, -1)", x.session(0, 1, 0, -1), -1);
        DUE.is("session(0, 1, 0, 9)", x.session(0, 1, 0, 9), -1);
        DUE.is("session(0, 1, -1, 1)", x.session(0, 1, -1, 1), -1);
        DUE.is("session(0, 1, 1, 1)", x.session(0, 1, 1, 1), -1);
        DUE.is("session(0, 1, 3, 1)", x.session(0, 1, 3, 1), -1);
        DUE.is("session(1, 0, 0, 1)", x.session(1, 0, 0, 1), -1);
        DUE.is("session(0, 0, 0, 1)", x.session(0, 0, 0, 1), -1);
        DUE.is("session(0, 2, 0, 1)", x.session(0, 2, 0, 1), -1);
        DUE.is("session(2, 0, 0, 1)", x.session(2, 0, 0, 1), -1);
        DUE.is("session(-1, 1, 0, 1)", x.session(-1, 1, 0, 1), -1);
        DUE.is("session(0, 5, 0, 1)", x.session(0, 5, 0, 1), -1);
        DUE.is("session(0, 1, 0, 1)", x.session(0, 1, 0, 1), 0);
    }

    private static void pairsHaveListsOfTheirOwn() {
        RatchetPost x = threeUsers();
        x.begin(0, 1);
        x.begin(0, 1);
        x.begin(1, 3);
        DUE.is("sessions(0, 1)", x.sessions(0, 1), 2);
        DUE.is("sessions(0, 3)", x.sessions(0, 3), 0);
        DUE.is("sessions(1, 0)", x.sessions(1, 0), 0);
        DUE.is("sessions(1, 3)", x.sessions(1, 3), 1);
        DUE.is("sessions(3, 1)", x.sessions(3, 1), 0);
        DUE.is("sessions(3, 0)", x.sessions(3, 0), 0);
    }

    /** A failed try and a session that fell out both leave numbers behind that a new session must not have. */
    private static void aNewSessionTakesNothingOver() {
        RatchetPost x = threeUsers();
        x.begin(0, 1);
        x.send(0, 1, 1);
        DUE.is("open(0)", x.open(0), 0);
        x.send(1, 0, 2);
        DUE.is("open(1)", x.open(1), 0);
        for (int i = 0; i < 4; i++) {
            x.send(0, 1, i);
        }
        DUE.is("open(5)", x.open(5), 0);
        x.send(1, 0, 3);
        int base = x.session(1, 0, 0, 0);
        has(x, 1, 0, base, 1, 4, 1, 3);
        x.alter(2, 11, 1);
        DUE.is("open(2)", x.open(2), 1);
        for (int i = 0; i < 5; i++) {
            DUE.is("begin(1, 0)", x.begin(1, 0), 0);
            has(x, 1, 0, x.session(1, 0, 0, 0), 0, 0, 0, 0, x.user(0, 1), x.session(1, 0, 0, 6), 1);
        }
        x.send(1, 0, 9);
        DUE.is("a FIRST one", x.envelope(7, 2), 0);
        DUE.is("open(7)", x.open(7), 0);
        DUE.is("text()", x.text(), 9);
    }
}
