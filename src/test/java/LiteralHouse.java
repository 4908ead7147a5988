import java.util.ArrayList;
import java.util.HashSet;
import java.util.List;
import java.util.Set;

/**
 * The document word by word, slow and with nothing remembered that can be found again: VOID,
 * OPENINGS and ROWS are worked out anew from all MESSAGES each time they are asked for, and a
 * SERVER READS its own MESSAGES inside the act of certifying them. It shares no code and no way
 * of going about things with the class that is tested against it.
 */
final class LiteralHouse {
    static final int NONE = -1;

    record Request(int client, int own, int kind, int key, int number) {
    }

    record Message(int server, int k, int kind, int view, int a, int b, int stamp) {
    }

    static final class Server {
        final int id;
        int view = 0;
        boolean active = true;
        boolean lied = false;
        final int[] map = new int[4];
        final int[] lastWithEffect = new int[4];
        final List<Integer> history = new ArrayList<>();
        final List<Set<Integer>> brought = List.of(new HashSet<>(), new HashSet<>(), new HashSet<>());
        final int[] next = {1, 1, 1};
        final int[] asked = {NONE, NONE, NONE};
        final Integer[] replies = new Integer[60];
        final List<Message> changesRead = new ArrayList<>();
        List<Message> prepares = new ArrayList<>();
        Set<Integer> votes = new HashSet<>();
        int preparesDone = 0;
        boolean openingDone = false;

        Server(int id) {
            this.id = id;
        }
    }

    final List<Request> requests = new ArrayList<>();
    final List<List<Message>> certified = List.of(new ArrayList<>(), new ArrayList<>(), new ArrayList<>());
    final Server[] servers = {new Server(0), new Server(1), new Server(2)};
    final Integer[][] clientHas = new Integer[60][3];
    final Integer[] answer = new Integer[60];
    private int stamps = 0;
    private int readOfOthers = 0;

    // ---- by what SERVERS certified

    Message find(int server, int k) {
        List<Message> all = certified.get(server);
        return k >= 1 && k <= all.size() ? all.get(k - 1) : null;
    }

    boolean isVoid(Message m) {
        if (m.kind == 2) {
            return false;
        }
        for (Message c : certified.get(m.server)) {
            if (c.kind == 2 && c.view > m.view && c.k < m.k) {
                return true;
            }
        }
        boolean leads = m.view % 3 == m.server;
        if (m.kind == 0) {
            if (!leads) {
                return true;
            }
            Message o = opening(m.view);
            return !(m.view == 0 || o != null && o.k < m.k);
        }
        if (m.kind == 1) {
            if (leads) {
                return true;
            }
            Message told = find(m.view % 3, m.a);
            if (told == null || told.stamp > m.stamp || told.view != m.view) {
                return true;
            }
            boolean goodPrepare = told.kind == 0 && !isVoid(told);
            boolean isOpening = told.kind == 3 && opening(m.view) == told;
            return !goodPrepare && !isOpening;
        }
        if (!leads || m.view == 0 || m.a % 3 == m.b % 3) {
            return true;
        }
        return !isEarlierChange(find(m.a % 3, m.a / 3), m) || !isEarlierChange(find(m.b % 3, m.b / 3), m);
    }

    private boolean isEarlierChange(Message c, Message m) {
        return c != null && c.kind == 2 && c.view == m.view && c.stamp < m.stamp;
    }

    Message opening(int w) {
        if (w == 0) {
            return null;
        }
        for (Message m : certified.get(w % 3)) {
            if (m.kind == 3 && m.view == w && !isVoid(m)) {
                return m;
            }
        }
        return null;
    }

    private boolean counts(Message m, int end) {
        if (m.k >= end || isVoid(m)) {
            return false;
        }
        return m.kind == 0 || m.kind == 1 || m.kind == 3 && opening(m.view) == m;
    }

    List<Integer> rowOf(int w) {
        List<Integer> row = new ArrayList<>();
        Message o = opening(w);
        if (o == null) {
            return row;
        }
        int[][] pairs = {{o.a % 3, o.a / 3}, {o.b % 3, o.b / 3}};
        int u = 0;
        for (int[] p : pairs) {
            for (Message m : certified.get(p[0])) {
                if (m.view < w && m.view > u && counts(m, p[1])) {
                    u = m.view;
                }
            }
        }
        row.addAll(rowOf(u));
        for (Message prepare : certified.get(u % 3)) {
            if (prepare.kind == 0 && prepare.view == u && isHeld(prepare, pairs)) {
                row.add(prepare.a);
            }
        }
        return row;
    }

    private boolean isHeld(Message prepare, int[][] pairs) {
        for (int[] p : pairs) {
            for (Message m : certified.get(p[0])) {
                if (!counts(m, p[1]) || m.view != prepare.view) {
                    continue;
                }
                if (m == prepare || m.kind == 1 && m.a == prepare.k) {
                    return true;
                }
            }
        }
        return false;
    }

    // ---- a SERVER

    private int certifies(Server s, int kind, int view, int a, int b) {
        List<Message> own = certified.get(s.id);
        if (own.size() == 100) {
            return NONE;
        }
        Message m = new Message(s.id, own.size() + 1, kind, view, a, b, stamps++);
        own.add(m);
        if (!s.lied) {
            s.next[s.id]++;
            reads(s, m);
        }
        return m.k;
    }

    private void reads(Server s, Message m) {
        if (!isVoid(m)) {
            if (m.kind == 0 && m.view == s.view) {
                s.prepares.add(m);
                if (s.view % 3 != s.id) {
                    certifies(s, 1, s.view, m.k, 0);
                }
            } else if (m.kind == 1 && m.view == s.view) {
                s.votes.add(m.a);
            } else if (m.kind == 2) {
                readsChange(s, m);
            } else if (m.kind == 3 && (m.view > s.view || m.view == s.view && !s.active)) {
                goesTo(s, m.view, true);
                if (s.view % 3 != s.id) {
                    certifies(s, 1, s.view, m.k, 0);
                }
            }
        }
        done(s);
    }

    private void readsChange(Server s, Message m) {
        s.changesRead.add(m);
        if (m.view != s.view || s.active || s.view % 3 != s.id) {
            return;
        }
        Message first = null;
        for (Message c : s.changesRead) {
            if (c.view != s.view) {
                continue;
            }
            if (first == null) {
                first = c;
            } else if (c.server != first.server) {
                certifies(s, 3, s.view, first.k * 3 + first.server, c.k * 3 + c.server);
                return;
            }
        }
    }

    private void goesTo(Server s, int view, boolean active) {
        s.view = view;
        s.active = active;
        s.prepares = new ArrayList<>();
        s.votes = new HashSet<>();
        s.preparesDone = 0;
        s.openingDone = false;
    }

    private void done(Server s) {
        if (!s.active) {
            return;
        }
        if (s.view > 0 && !s.openingDone) {
            if (!s.votes.contains(opening(s.view).k)) {
                return;
            }
            s.openingDone = true;
            List<Integer> row = rowOf(s.view);
            while (s.history.size() < row.size()) {
                does(s, row.get(s.history.size()));
            }
        }
        while (s.preparesDone < s.prepares.size() && s.votes.contains(s.prepares.get(s.preparesDone).k)) {
            does(s, s.prepares.get(s.preparesDone).a);
            s.preparesDone++;
        }
    }

    private void does(Server s, int number) {
        s.history.add(number);
        Request r = requests.get(number);
        if (r.own <= s.lastWithEffect[r.client]) {
            return;
        }
        s.lastWithEffect[r.client] = r.own;
        int had = s.map[r.key];
        if (r.kind == 1) {
            s.map[r.key] = r.number;
        } else if (r.kind == 2) {
            s.map[r.key] += r.number;
        }
        s.replies[number] = r.kind == 2 ? s.map[r.key] : had;
    }

    private void readsOthers(Server s) {
        boolean again = true;
        while (again) {
            again = false;
            for (int from = 0; from < 3 && !again; from++) {
                if (from == s.id || !s.brought.get(from).contains(s.next[from])) {
                    continue;
                }
                Message m = find(from, s.next[from]);
                boolean above = m.view > s.view || m.view == s.view && !s.active;
                if (m.kind <= 1 && above && !isVoid(m)) {
                    continue;
                }
                s.next[from]++;
                readOfOthers++;
                reads(s, m);
                again = true;
            }
        }
    }

    private boolean followsAskings(Server s) {
        int above = 0;
        for (int w : s.asked) {
            if (w > s.view) {
                above++;
            }
        }
        if (above < 2) {
            return false;
        }
        int[] sorted = s.asked.clone();
        java.util.Arrays.sort(sorted);
        goesTo(s, sorted[1], false);
        certifies(s, 2, s.view, 0, 0);
        readsOthers(s);
        return true;
    }

    // ---- the face

    private void server(int s) {
        if (s < 0 || s > 2) {
            throw new IndexOutOfBoundsException();
        }
    }

    private void theRequest(int r) {
        if (r < 0 || r >= requests.size()) {
            throw new IndexOutOfBoundsException();
        }
    }

    private void theView(int w) {
        if (w < 0 || w > 30) {
            throw new IllegalArgumentException();
        }
    }

    private void liar(int s) {
        if (!servers[s].lied) {
            throw new IllegalStateException();
        }
    }

    int request(int client, int kind, int key, int number) {
        if (client < 0 || client > 3 || kind < 0 || kind > 2 || key < 0 || key > 3) {
            throw new IllegalArgumentException();
        }
        if (requests.size() == 60) {
            throw new IllegalStateException();
        }
        int own = 1;
        for (Request r : requests) {
            if (r.client == client) {
                own++;
            }
        }
        requests.add(new Request(client, own, kind, key, number));
        return requests.size() - 1;
    }

    int bring(int request, int server) {
        theRequest(request);
        server(server);
        Server s = servers[server];
        if (s.lied || !s.active || s.view % 3 != server) {
            return 0;
        }
        for (Message m : certified.get(server)) {
            if (m.kind == 0 && m.view == s.view && m.a == request) {
                return 0;
            }
        }
        return certifies(s, 0, s.view, request, 0) == NONE ? 0 : 1;
    }

    int send(int from, int k, int to) {
        server(from);
        server(to);
        if (find(from, k) == null) {
            throw new IndexOutOfBoundsException();
        }
        if (from == to) {
            throw new IllegalArgumentException();
        }
        Server s = servers[to];
        if (s.lied) {
            return 0;
        }
        s.brought.get(from).add(k);
        readOfOthers = 0;
        readsOthers(s);
        return readOfOthers;
    }

    int late(int server) {
        server(server);
        Server s = servers[server];
        if (s.lied || s.view == 30) {
            return NONE;
        }
        int w = s.view + 1;
        s.asked[server] = w;
        followsAskings(s);
        return w;
    }

    int ask(int from, int to) {
        server(from);
        server(to);
        if (from == to) {
            throw new IllegalArgumentException();
        }
        Server s = servers[to];
        int w = servers[from].asked[from];
        if (s.lied || w == NONE) {
            return 0;
        }
        if (w > s.asked[from]) {
            s.asked[from] = w;
        }
        return followsAskings(s) ? 1 : 0;
    }

    int reply(int server, int request) {
        server(server);
        theRequest(request);
        Integer r = servers[server].replies[request];
        if (r == null) {
            return NONE;
        }
        Integer[] has = clientHas[request];
        has[server] = r;
        for (int i = 0; i < 3; i++) {
            for (int j = 0; j < i; j++) {
                if (answer[request] == null && has[i] != null && has[i].equals(has[j])) {
                    answer[request] = has[i];
                }
            }
        }
        return answer[request] != null ? 1 : 0;
    }

    boolean lie(int server) {
        server(server);
        for (Server s : servers) {
            if (s.lied && s.id != server) {
                return false;
            }
        }
        servers[server].lied = true;
        return true;
    }

    int certify(int server, int kind, int view, int a, int b) {
        server(server);
        liar(server);
        theView(view);
        boolean good = switch (kind) {
            case 0 -> a >= 0 && a < requests.size() && b == 0;
            case 1 -> a >= 0 && a <= 200 && b == 0;
            case 2 -> a == 0 && b == 0;
            case 3 -> a >= 0 && a <= 600 && b >= 0 && b <= 600;
            default -> false;
        };
        if (!good) {
            throw new IllegalArgumentException();
        }
        return certifies(servers[server], kind, view, a, b);
    }

    void askFor(int server, int view) {
        server(server);
        liar(server);
        theView(view);
        servers[server].asked[server] = view;
    }

    void replyWith(int server, int request, int result) {
        server(server);
        theRequest(request);
        liar(server);
        servers[server].replies[request] = result;
    }

    int state(int server, int what) {
        server(server);
        Server s = servers[server];
        return switch (what) {
            case 0 -> s.view;
            case 1 -> s.active ? 1 : 0;
            case 2 -> certified.get(server).size();
            case 3 -> s.history.size();
            case 4 -> s.lied ? 1 : 0;
            case 5 -> s.asked[server];
            case 6, 7, 8 -> s.next[what - 6];
            case 9, 10, 11, 12 -> s.map[what - 9];
            default -> throw new IllegalArgumentException();
        };
    }

    int history(int server, int k) {
        server(server);
        List<Integer> h = servers[server].history;
        return k >= 0 && k < h.size() ? h.get(k) : NONE;
    }

    int message(int server, int k, int what) {
        server(server);
        Message m = find(server, k);
        if (m == null) {
            throw new IndexOutOfBoundsException();
        }
        return switch (what) {
            case 0 -> m.kind;
            case 1 -> m.view;
            case 2 -> m.a;
            case 3 -> m.b;
            case 4 -> isVoid(m) ? 1 : 0;
            default -> throw new IllegalArgumentException();
        };
    }

    int row(int view, int k) {
        theView(view);
        List<Integer> row = rowOf(view);
        return k >= 0 && k < row.size() ? row.get(k) : NONE;
    }

    int told(int request, int what) {
        theRequest(request);
        return switch (what) {
            case 0 -> requests.get(request).client;
            case 1 -> requests.get(request).own;
            case 2 -> answer[request] != null ? 1 : 0;
            case 3 -> answer[request] != null ? answer[request] : 0;
            default -> throw new IllegalArgumentException();
        };
    }

    int result(int server, int request) {
        server(server);
        theRequest(request);
        Integer r = servers[server].replies[request];
        return r == null ? 0 : r;
    }
}
