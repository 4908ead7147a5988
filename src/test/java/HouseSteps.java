/** What several tests do and look at alike. */
abstract class HouseSteps {
    static final Class<IndexOutOfBoundsException> INDEX = IndexOutOfBoundsException.class;
    static final Class<IllegalArgumentException> ARGUMENT = IllegalArgumentException.class;
    static final Class<IllegalStateException> STATE = IllegalStateException.class;
    static final int NONE = CountedHouse.NONE;
    static final int LEAST = Integer.MIN_VALUE;
    static final int MOST = Integer.MAX_VALUE;

    static final int PREPARE = 0;
    static final int COMMIT = 1;
    static final int CHANGE = 2;
    static final int NEW = 3;

    /** Brings one more MESSAGE than was READ so far, as often as there is one. */
    static void sendRest(CountedHouse h, int from, int to) {
        for (int i = 0; i < 100 && h.state(to, 6 + from) <= h.state(from, 2); i++) {
            h.send(from, h.state(to, 6 + from), to);
        }
    }

    /** Two SERVERS that are in one VIEW go to the VIEW behind it; nothing is sent yet. */
    static void bothLate(CountedHouse h, int one, int other) {
        h.late(one);
        h.late(other);
        h.ask(one, other);
        h.ask(other, one);
    }

    /** Servers 1 and 2 go to VIEW 1 without server 0; server 1 opens it, all of 1 and 2 is READ by both. */
    static void openViewOne(CountedHouse h) {
        bothLate(h, 1, 2);
        sendRest(h, 2, 1);
        sendRest(h, 1, 2);
        sendRest(h, 2, 1);
    }

    /** Server 0 lies and leads VIEW 0: n PREPARES of REQUEST 0, each READ, committed and done by server 1. */
    static CountedHouse busyFollower(int n) {
        CountedHouse h = new CountedHouse();
        h.request(0, 2, 0, 1);
        h.lie(0);
        for (int k = 1; k <= n; k++) {
            h.certify(0, PREPARE, 0, 0, 0);
            h.send(0, k, 1);
        }
        return h;
    }

    static void says(String what, CountedHouse h, int server, int... due) {
        for (int i = 0; i < due.length; i++) {
            Check.eq(what + ": state(" + server + ", " + i + ")", h.state(server, i), due[i]);
        }
    }

    static void isMessage(String what, CountedHouse h, int server, int k, int... due) {
        for (int i = 0; i < due.length; i++) {
            Check.eq(what + ": message(" + server + ", " + k + ", " + i + ")", h.message(server, k, i), due[i]);
        }
    }

    /** A ROW from its first to its last, and that nothing stands ahead of it and behind it. */
    static void rowIs(String what, CountedHouse h, int view, int... due) {
        Check.eq(what + ": row(" + view + ", -1)", h.row(view, -1), NONE);
        for (int k = 0; k < due.length; k++) {
            Check.eq(what + ": row(" + view + ", " + k + ")", h.row(view, k), due[k]);
        }
        Check.eq(what + ": row(" + view + ", " + due.length + ")", h.row(view, due.length), NONE);
    }

    static void historyIs(String what, CountedHouse h, int server, int... due) {
        Check.eq(what + ": history(" + server + ", -1)", h.history(server, -1), NONE);
        for (int k = 0; k < due.length; k++) {
            Check.eq(what + ": history(" + server + ", " + k + ")", h.history(server, k), due[k]);
        }
        Check.eq(what + ": history(" + server + ", " + due.length + ")", h.history(server, due.length), NONE);
        Check.eq(what + ": state(" + server + ", 3)", h.state(server, 3), due.length);
    }

    /** What all three SERVERS say, in one number: to see that a refused call left all as it was. */
    static long picture(CountedHouse h) {
        long all = 17;
        for (int server = 0; server < 3; server++) {
            for (int what = 0; what <= 12; what++) {
                all = all * 1_000_003 + h.state(server, what);
            }
        }
        return all;
    }
}
