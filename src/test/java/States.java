/** States from which the tests of bounds set out. */
final class States {
    private States() {
    }

    static Desk fresh(Due due) {
        return new Desk(due);
    }

    static Desk twoUsers(Due due) {
        Desk desk = new Desk(due);
        desk.register(0, 1001, true);
        desk.register(1, 1002, true);
        return desk;
    }

    static Desk fourUsers(Due due) {
        Desk desk = twoUsers(due);
        desk.register(2, 1003, true);
        desk.register(3, 1004, true);
        return desk;
    }

    /** User 0 has begun with user 1, with a one-time key, and sealed envelopes 0 .. n - 1 with texts 100, 101, .. */
    static Desk begun(Due due, int n) {
        Desk desk = twoUsers(due);
        desk.prekeys(1, 1, 1);
        desk.begin(0, 1, 0);
        desk.sendMany(0, 1, n);
        return desk;
    }

    /**
     * Users 0, 1 and 3, but not 2. User 1 has an old signed pair, one-time pairs and a session for 0 with two skipped
     * keys; user 0 has a new session before an answered one for 1; user 3 has begun with 1, who does not know yet.
     * Envelopes: 0 .. 3 FIRST ones from 0 to 1, of which 2 is opened; 4 the answer, opened; 5 a FIRST one from 3 to
     * 1 by what is now the old signed key; 6 a FURTHER one from 0 to 1 that turns the ratchet, with pn 4; 7 a copy of
     * 5; 8 a FIRST one from 0 to 1 of the new session.
     */
    static Desk busy(Due due) {
        Desk desk = new Desk(due);
        desk.register(0, 1001, true);
        desk.register(1, 1002, true);
        desk.register(3, 1004, true);
        desk.prekeys(1, 4, 4);
        desk.begin(0, 1, 0);
        desk.sendMany(0, 1, 4);
        desk.open(2, 0);
        desk.send(1, 0, 200, 4);
        desk.begin(3, 1, 0);
        desk.send(3, 1, 300, 5);
        desk.rotate(1, true);
        desk.open(4, 0);
        desk.send(0, 1, 400, 6);
        desk.begin(0, 1, 0);
        desk.copy(5, 7);
        desk.send(0, 1, 500, 8);
        return desk;
    }

    /** The busy state with all sixty envelopes: 9 .. 59 are copies of 6. */
    static Desk full(Due due) {
        Desk desk = busy(due);
        for (int e = 9; e < 60; e++) {
            desk.copy(6, e);
        }
        return desk;
    }
}
