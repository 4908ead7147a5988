/**
 * Long runs of calls, drawn by a fixed rule, on the class and on the document taken word by
 * word (LiteralHouse): each answer must be the same. No run goes beyond 512 calls.
 */
public final class AgreementTests {
    private static final String[] NAMES = {"request", "bring", "send", "late", "ask", "reply", "lie", "certify",
        "askFor", "replyWith", "state", "history", "message", "row", "told", "result"};
    private static final int CALLS = 512;
    private static final int CHANGING = 380;

    private long seed;
    private CountedHouse house;
    private LiteralHouse literal;
    private int profile;
    private int calls;
    private int alone;

    // What the runs came to, so that a driver that no longer reaches far is seen.
    private static int deepestView;
    private static int longestHistory;
    private static int longestRow;
    private static int fullCounters;
    private static int goodLies;
    private static int answered;
    private static int apart;

    public static void main(String[] args) {
        int runs = args.length > 0 ? Integer.parseInt(args[0]) : 3000;
        for (int run = 0; run < runs && Check.wrongSoFar() == 0; run++) {
            new AgreementTests().drive(run);
        }
        Check.yes("runs reach the last view", deepestView == 30);
        Check.yes("runs have long histories", longestHistory >= 30);
        Check.yes("runs have long rows", longestRow >= 20);
        Check.yes("runs fill counters", fullCounters >= 3);
        Check.yes("liars certify what is not void", goodLies >= 100);
        Check.yes("requests are answered", answered >= 100);
        Check.eq("true servers whose histories part", apart, 0);
        System.out.println("view " + deepestView + ", history " + longestHistory + ", row " + longestRow
                + ", full counters " + fullCounters + ", good lies " + goodLies + ", answered " + answered);
        Check.end("AgreementTests");
    }

    private int below(int n) {
        seed = seed * 6364136223846793005L + 1442695040888963407L;
        return (int) ((seed >>> 33) % n);
    }

    private boolean chance(int percent) {
        return below(100) < percent;
    }

    private void drive(int run) {
        seed = run * 7919L + 17;
        below(2);
        house = new CountedHouse();
        literal = new LiteralHouse();
        profile = run % 8;
        if (run % 9 == 8) {
            climb(run);
        }
        for (int i = 0; i < CHANGING && Check.wrongSoFar() == 0; i++) {
            // One that gets nothing for long has much that waits, of both others.
            alone = profile % 4 >= 2 && i % 130 < 100 ? (run / 8 + i / 130) % 3 : LiteralHouse.NONE;
            if (i % 130 == 100 && profile % 4 >= 2) {
                sendBackwards(run, (run / 8 + i / 130) % 3);
            }
            change(run);
            if (chance(10)) {
                look(run);
            }
        }
        while (calls < CALLS && Check.wrongSoFar() == 0) {
            look(run);
        }
        tally();
    }

    /** A liar's ASKING takes both others near the last VIEW, so that the run goes on at that end. */
    private void climb(int run) {
        int liar = below(3);
        int top = 27 + below(3);
        both(run, 6, liar);
        both(run, 8, liar, top);
        for (int step = 1; step <= 2; step++) {
            int other = (liar + step) % 3;
            both(run, 4, liar, other);
            for (int w = 1; w < top; w++) {
                both(run, 3, other);
            }
        }
    }

    private void change(int run) {
        int liar = liar();
        if (liar == -1 && profile >= 4 && chance(profile == 7 ? 20 : 3)) {
            both(run, 6, below(3));
            return;
        }
        if (liar >= 0 && chance(profile == 7 ? 45 : 20)) {
            doLie(run, liar);
            return;
        }
        int dice = below(100);
        int storm = new int[] {0, 1, 3, 7}[profile % 4];
        if (dice < 12) {
            both(run, 0, below(4), below(3), below(4), below(7) - 3);
        } else if (dice < 30) {
            both(run, 1, someRequest(), chance(70) ? someLeader() : below(3));
        } else if (dice < 30 + 2 * storm) {
            both(run, 3, below(3));
        } else if (dice < 30 + 5 * storm) {
            both(run, 4, below(3), below(3));
        } else if (dice < 52) {
            both(run, 5, below(3), someRequest());
        } else if (dice < 54) {
            wild(run);
        } else {
            sendSome(run);
        }
    }

    private int liar() {
        for (LiteralHouse.Server s : literal.servers) {
            if (s.lied) {
                return s.id;
            }
        }
        return -1;
    }

    private int someRequest() {
        int n = literal.requests.size();
        return n == 0 ? 0 : chance(60) ? Math.max(0, n - 1 - below(4)) : below(n);
    }

    private int someLeader() {
        return literal.servers[below(3)].view % 3;
    }

    private void sendSome(int run) {
        int from = below(3);
        int to = (from + 1 + below(2)) % 3;
        int n = literal.certified.get(from).size();
        int k = literal.servers[to].next[from];
        if (n > 0 && (k > n || chance(25))) {
            k = 1 + below(n);
        }
        if (to == alone) {
            return;
        }
        if (chance(3)) {
            sendBackwards(run, to);
        } else {
            both(run, 2, from, k, to);
        }
    }

    /** The last first, so that one call frees many MESSAGES of both others at once. */
    private void sendBackwards(int run, int to) {
        for (int step = 1; step <= 2; step++) {
            int from = (to + step) % 3;
            int first = literal.servers[to].next[from];
            for (int k = Math.min(literal.certified.get(from).size(), first + 15); k >= first; k--) {
                both(run, 2, from, k, to);
            }
        }
    }

    private void doLie(int run, int liar) {
        int dice = below(100);
        LiteralHouse.Server other = literal.servers[(liar + 1 + below(2)) % 3];
        int view = chance(60) ? other.view : chance(60) ? Math.min(30, other.view + 1) : below(31);
        int leaderCount = literal.certified.get(view % 3).size();
        if (dice < 25) {
            both(run, 7, liar, 0, chance(40) ? ledView(liar, view) : view, someRequest(), 0);
        } else if (dice < 55) {
            both(run, 7, liar, 1, view, leaderCount == 0 ? below(3) : 1 + below(leaderCount), 0);
        } else if (dice < 65) {
            both(run, 7, liar, 2, chance(80) ? ledView(liar, view) : below(31), 0, 0);
        } else if (dice < 80) {
            lieNew(run, liar, view);
        } else if (dice < 88) {
            both(run, 8, liar, chance(70) ? Math.min(30, other.view + below(3)) : below(31));
        } else {
            both(run, 9, liar, someRequest(), below(7) - 3);
        }
    }

    private int ledView(int liar, int from) {
        int w = from;
        while (w % 3 != liar) {
            w++;
        }
        return Math.min(w, 30);
    }

    /** Two CHANGES to one VIEW that it leads, where there are such; else whatever comes. */
    private void lieNew(int run, int liar, int view) {
        int[] pairs = new int[3];
        int w = ledView(liar, view);
        for (int s = 0; s < 3; s++) {
            for (LiteralHouse.Message m : literal.certified.get(s)) {
                if (m.kind() == 2 && m.view() == w && (pairs[s] == 0 || chance(50))) {
                    pairs[s] = m.k() * 3 + s;
                }
            }
        }
        int a = below(3);
        int b = chance(90) ? (a + 1 + below(2)) % 3 : a;
        both(run, 7, liar, 3, w, chance(90) ? pairs[a] : below(40), chance(90) ? pairs[b] : below(40));
    }

    private void wild(int run) {
        int op = below(16);
        int[] edges = {-1, 0, 1, 2, 3, 4, 12, 13, 30, 31, 59, 60, 61, 99, 100, 101, 200, 201, 600, 601,
            Integer.MAX_VALUE, Integer.MIN_VALUE};
        if (op == 6) {
            return;
        }
        both(run, op, edges[below(edges.length)], edges[below(edges.length)], edges[below(edges.length)],
                edges[below(edges.length)], edges[below(edges.length)]);
    }

    private void look(int run) {
        int s = below(3);
        int n = literal.certified.get(s).size();
        switch (below(7)) {
            case 0:
            case 1:
                both(run, 10, s, below(13));
                break;
            case 2:
                both(run, 11, s, below(literal.servers[s].history.size() + 1));
                break;
            case 3:
                both(run, 12, s, 1 + below(n + 1), below(5));
                break;
            case 4:
                int w = chance(70) ? literal.servers[s].view : below(31);
                both(run, 13, w, below(literal.rowOf(w).size() + 1));
                break;
            case 5:
                both(run, 14, someRequest(), below(4));
                break;
            default:
                both(run, 15, s, someRequest());
                break;
        }
    }

    private void both(int run, int op, int... given) {
        if (calls >= CALLS) {
            return;
        }
        calls++;
        int[] a = java.util.Arrays.copyOf(given, 5);
        StringBuilder text = new StringBuilder("run " + run + " call " + calls + ": " + NAMES[op] + "(");
        for (int i = 0; i < given.length; i++) {
            text.append(i == 0 ? "" : ", ").append(given[i]);
        }
        Check.eq(text.append(")").toString(), ofHouse(op, a), ofLiteral(op, a));
    }

    private static long thrown(RuntimeException e) {
        Class<?> c = e.getClass();
        return c == IndexOutOfBoundsException.class ? 1L << 40 : c == IllegalArgumentException.class ? 2L << 40
            : c == IllegalStateException.class ? 3L << 40 : 9L << 40;
    }

    private long ofHouse(int op, int[] a) {
        try {
            switch (op) {
                case 0: return house.request(a[0], a[1], a[2], a[3]);
                case 1: return house.bring(a[0], a[1]);
                case 2: return house.send(a[0], a[1], a[2]);
                case 3: return house.late(a[0]);
                case 4: return house.ask(a[0], a[1]);
                case 5: return house.reply(a[0], a[1]);
                case 6: return house.lie(a[0]) ? 1 : 0;
                case 7: return house.certify(a[0], a[1], a[2], a[3], a[4]);
                case 8: house.askFor(a[0], a[1]); return 0;
                case 9: house.replyWith(a[0], a[1], a[2]); return 0;
                case 10: return house.state(a[0], a[1]);
                case 11: return house.history(a[0], a[1]);
                case 12: return house.message(a[0], a[1], a[2]);
                case 13: return house.row(a[0], a[1]);
                case 14: return house.told(a[0], a[1]);
                default: return house.result(a[0], a[1]);
            }
        } catch (RuntimeException e) {
            return thrown(e);
        }
    }

    private long ofLiteral(int op, int[] a) {
        try {
            switch (op) {
                case 0: return literal.request(a[0], a[1], a[2], a[3]);
                case 1: return literal.bring(a[0], a[1]);
                case 2: return literal.send(a[0], a[1], a[2]);
                case 3: return literal.late(a[0]);
                case 4: return literal.ask(a[0], a[1]);
                case 5: return literal.reply(a[0], a[1]);
                case 6: return literal.lie(a[0]) ? 1 : 0;
                case 7: return literal.certify(a[0], a[1], a[2], a[3], a[4]);
                case 8: literal.askFor(a[0], a[1]); return 0;
                case 9: literal.replyWith(a[0], a[1], a[2]); return 0;
                case 10: return literal.state(a[0], a[1]);
                case 11: return literal.history(a[0], a[1]);
                case 12: return literal.message(a[0], a[1], a[2]);
                case 13: return literal.row(a[0], a[1]);
                case 14: return literal.told(a[0], a[1]);
                default: return literal.result(a[0], a[1]);
            }
        } catch (RuntimeException e) {
            return thrown(e);
        }
    }

    private void tally() {
        for (LiteralHouse.Server s : literal.servers) {
            longestHistory = Math.max(longestHistory, s.history.size());
            if (!s.lied && s.active) {
                deepestView = Math.max(deepestView, s.view);
            }
            fullCounters += literal.certified.get(s.id).size() == 100 ? 1 : 0;
        }
        for (int w = 1; w <= 30; w++) {
            longestRow = Math.max(longestRow, literal.rowOf(w).size());
        }
        int liar = liar();
        if (liar >= 0) {
            for (LiteralHouse.Message m : literal.certified.get(liar)) {
                goodLies += m.kind() != 2 && !literal.isVoid(m) ? 1 : 0;
            }
        }
        for (Integer r : literal.answer) {
            answered += r != null ? 1 : 0;
        }
        for (LiteralHouse.Server s : literal.servers) {
            for (LiteralHouse.Server t : literal.servers) {
                int n = Math.min(s.history.size(), t.history.size());
                if (!s.lied && !t.lied && !s.history.subList(0, n).equals(t.history.subList(0, n))) {
                    apart++;
                }
            }
        }
    }
}
