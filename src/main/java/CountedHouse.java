/**
 * Three servers that keep one small map alike though one of them may lie, after MinBFT.
 * Words in capitals in the comments are the terms of the document.
 */
public final class CountedHouse {

    public static final int NONE = -1;

    private static final int SERVERS = 3;
    private static final int CLIENTS = 4;
    private static final int KEYS = 4;
    private static final int VIEWS = 31;
    private static final int MOST_REQUESTS = 60;
    private static final int MOST_MESSAGES = 100;
    private static final int GREATEST_COMMITTED = 200;
    private static final int GREATEST_PAIR = 600;

    // No ROW and no HISTORY can be longer: each entry stands for another PREPARE.
    private static final int MOST_DONE = SERVERS * MOST_MESSAGES;

    private static final int READ = 0;
    private static final int PUT = 1;
    private static final int ADD = 2;

    private static final int PREPARE = 0;
    private static final int COMMIT = 1;
    private static final int CHANGE = 2;
    private static final int NEW = 3;

    // What a MESSAGE has, numbered as the face asks for it.
    private static final int KIND = 0;
    private static final int VIEW = 1;
    private static final int FIRST = 2;
    private static final int SECOND = 3;
    private static final int VOID = 4;
    private static final int PARTS = 5;

    private final Requests requests;
    private final Book book;
    private final Answers answers;
    private final Server[] servers;

    public CountedHouse() {
        requests = new Requests();
        book = new Book();
        answers = new Answers();
        servers = new Server[SERVERS];
        for (int i = 0; i < SERVERS; i++) {
            servers[i] = new Server(i, requests, book);
        }
    }

    public int request(int client, int kind, int key, int number)
            throws IllegalArgumentException, IllegalStateException {
        if (client < 0 || client >= CLIENTS) {
            throw new IllegalArgumentException("no such client");
        }
        if (kind < READ || kind > ADD) {
            throw new IllegalArgumentException("no such kind");
        }
        if (key < 0 || key >= KEYS) {
            throw new IllegalArgumentException("no such key");
        }
        if (requests.isFull()) {
            throw new IllegalStateException("no more requests");
        }
        return requests.add(client, kind, key, number);
    }

    public int bring(int request, int server) throws IndexOutOfBoundsException {
        checkRequest(request);
        checkServer(server);
        Server s = servers[server];
        if (!s.prepares(request)) {
            return 0;
        }
        s.readAll();
        return 1;
    }

    public int send(int from, int k, int to) throws IndexOutOfBoundsException, IllegalArgumentException {
        checkMessage(from, k);
        checkServer(to);
        checkNotSame(from, to);
        Server s = servers[to];
        if (s.hasLied()) {
            return 0;
        }
        s.receive(from, k);
        return s.readAll();
    }

    public int late(int server) throws IndexOutOfBoundsException {
        checkServer(server);
        Server s = servers[server];
        if (s.hasLied() || s.viewNow() >= VIEWS - 1) {
            return NONE;
        }
        int wanted = s.viewNow() + 1;
        s.hearAsking(server, wanted);
        if (s.followsAskings()) {
            s.readAll();
        }
        return wanted;
    }

    public int ask(int from, int to) throws IndexOutOfBoundsException, IllegalArgumentException {
        checkServer(from);
        checkServer(to);
        checkNotSame(from, to);
        Server s = servers[to];
        if (s.hasLied()) {
            return 0;
        }
        s.hearAsking(from, servers[from].greatestAsked());
        if (!s.followsAskings()) {
            return 0;
        }
        // A higher VIEW frees what waited: PREPARES and COMMITS of VIEWS that are lower by now.
        s.readAll();
        return 1;
    }

    public int reply(int server, int request) throws IndexOutOfBoundsException {
        checkServer(server);
        checkRequest(request);
        Store store = servers[server].storeOf();
        if (!store.hasReply(request)) {
            return NONE;
        }
        answers.take(request, server, store.replyTo(request));
        return answers.isAnswered(request) ? 1 : 0;
    }

    public boolean lie(int server) throws IndexOutOfBoundsException {
        checkServer(server);
        for (int i = 0; i < SERVERS; i++) {
            if (i != server && servers[i].hasLied()) {
                return false;
            }
        }
        servers[server].startLying();
        return true;
    }

    public int certify(int server, int kind, int view, int a, int b)
            throws IndexOutOfBoundsException, IllegalStateException, IllegalArgumentException {
        checkServer(server);
        checkLiar(server);
        if (kind < PREPARE || kind > NEW) {
            throw new IllegalArgumentException("no such kind");
        }
        checkView(view);
        if (!canStandIn(kind, a)) {
            throw new IllegalArgumentException("no such request or number");
        }
        if (kind == NEW ? !canStandIn(NEW, b) : b != 0) {
            throw new IllegalArgumentException("no such second number");
        }
        return book.enter(server, kind, view, a, b);
    }

    public void askFor(int server, int view)
            throws IndexOutOfBoundsException, IllegalStateException, IllegalArgumentException {
        checkServer(server);
        checkLiar(server);
        checkView(view);
        servers[server].claimAsking(view);
    }

    public void replyWith(int server, int request, int result)
            throws IndexOutOfBoundsException, IllegalStateException {
        checkServer(server);
        checkRequest(request);
        checkLiar(server);
        servers[server].storeOf().setReply(request, result);
    }

    public int state(int server, int what) throws IndexOutOfBoundsException, IllegalArgumentException {
        checkServer(server);
        Server s = servers[server];
        switch (what) {
            case 0:
                return s.viewNow();
            case 1:
                return s.isActive() ? 1 : 0;
            case 2:
                return book.countOf(server);
            case 3:
                return s.storeOf().length();
            case 4:
                return s.hasLied() ? 1 : 0;
            case 5:
                return s.greatestAsked();
            case 6:
            case 7:
            case 8:
                return s.readsNext(what - 6);
            case 9:
            case 10:
            case 11:
            case 12:
                return s.storeOf().valueAt(what - 9);
            default:
                throw new IllegalArgumentException("no such thing to tell of a server");
        }
    }

    public int history(int server, int k) throws IndexOutOfBoundsException {
        checkServer(server);
        return servers[server].storeOf().doneAt(k);
    }

    public int message(int server, int k, int what) throws IndexOutOfBoundsException, IllegalArgumentException {
        checkMessage(server, k);
        if (what < KIND || what > VOID) {
            throw new IllegalArgumentException("no such thing to tell of a message");
        }
        return book.tell(server, k, what);
    }

    public int row(int view, int k) throws IllegalArgumentException {
        checkView(view);
        int[] wanted = book.rowOf(view);
        return k >= 0 && k < wanted.length ? wanted[k] : NONE;
    }

    public int told(int request, int what) throws IndexOutOfBoundsException, IllegalArgumentException {
        checkRequest(request);
        switch (what) {
            case 0:
                return requests.clientOf(request);
            case 1:
                return requests.ownNumberOf(request);
            case 2:
                return answers.isAnswered(request) ? 1 : 0;
            case 3:
                return answers.answerTo(request);
            default:
                throw new IllegalArgumentException("no such thing to tell of a request");
        }
    }

    public int result(int server, int request) throws IndexOutOfBoundsException {
        checkServer(server);
        checkRequest(request);
        return servers[server].storeOf().replyTo(request);
    }

    private static void checkServer(int server) {
        if (server < 0 || server >= SERVERS) {
            throw new IndexOutOfBoundsException("no such server");
        }
    }

    private void checkRequest(int request) {
        if (!requests.has(request)) {
            throw new IndexOutOfBoundsException("no such request");
        }
    }

    private void checkMessage(int server, int k) {
        checkServer(server);
        if (!book.has(server, k)) {
            throw new IndexOutOfBoundsException("no such message");
        }
    }

    private static void checkNotSame(int from, int to) {
        if (from == to) {
            throw new IllegalArgumentException("both servers are the same");
        }
    }

    private static void checkView(int view) {
        if (view < 0 || view >= VIEWS) {
            throw new IllegalArgumentException("no such view");
        }
    }

    private void checkLiar(int server) {
        if (!servers[server].hasLied()) {
            throw new IllegalStateException("the server has not lied");
        }
    }

    private boolean canStandIn(int kind, int a) {
        switch (kind) {
            case PREPARE:
                return requests.has(a);
            case COMMIT:
                return a >= 0 && a <= GREATEST_COMMITTED;
            case CHANGE:
                return a == 0;
            default:
                return a >= 0 && a <= GREATEST_PAIR;
        }
    }

    private static int leaderOf(int view) {
        return view % SERVERS;
    }

    /** A SERVER and a number of its MESSAGES as one int, the way a NEW tells them. */
    private static int pairOf(int server, int k) {
        return k * SERVERS + server;
    }

    private static int serverOf(int pair) {
        return pair % SERVERS;
    }

    private static int numberOf(int pair) {
        return pair / SERVERS;
    }

    /** The REQUESTS that CLIENTS made. */
    private static final class Requests {
        private final int[] client = new int[MOST_REQUESTS];
        private final int[] ownNumber = new int[MOST_REQUESTS];
        private final int[] kind = new int[MOST_REQUESTS];
        private final int[] key = new int[MOST_REQUESTS];
        private final int[] operand = new int[MOST_REQUESTS];
        private final int[] madeBy = new int[CLIENTS];
        private int count;

        boolean isFull() {
            return count >= MOST_REQUESTS;
        }

        boolean has(int r) {
            return r >= 0 && r < count;
        }

        int add(int ofClient, int ofKind, int ofKey, int number) {
            if (isFull() || ofClient < 0 || ofClient >= CLIENTS) {
                return NONE;
            }
            madeBy[ofClient]++;
            client[count] = ofClient;
            ownNumber[count] = madeBy[ofClient];
            kind[count] = ofKind;
            key[count] = ofKey;
            operand[count] = number;
            count++;
            return count - 1;
        }

        int clientOf(int r) {
            return has(r) ? client[r] : NONE;
        }

        int ownNumberOf(int r) {
            return has(r) ? ownNumber[r] : NONE;
        }

        int keyOf(int r) {
            return has(r) ? key[r] : NONE;
        }

        /** What the REQUEST's KEY has afterwards, if it had this ahead. */
        int valueAfter(int r, int had) {
            if (!has(r) || kind[r] == READ) {
                return had;
            }
            return kind[r] == PUT ? operand[r] : had + operand[r];
        }

        int resultOf(int r, int had) {
            return has(r) && kind[r] == ADD ? had + operand[r] : had;
        }
    }

    /** The MESSAGES of one SERVER, numbered from 1 on. */
    private static final class Counter {
        private final int[] cells = new int[(MOST_MESSAGES + 1) * PARTS];
        private int count;
        private int greatestChange = NONE;

        boolean isFull() {
            return count >= MOST_MESSAGES;
        }

        boolean has(int k) {
            return k >= 1 && k <= count;
        }

        int get(int k, int what) {
            return has(k) && what >= 0 && what < PARTS ? cells[k * PARTS + what] : NONE;
        }

        boolean isOf(int k, int kind, int view) {
            return k >= 1 && k <= count
                    && cells[k * PARTS + KIND] == kind && cells[k * PARTS + VIEW] == view;
        }

        int add(int kind, int view, int a, int b, boolean isVoid) {
            if (isFull()) {
                return NONE;
            }
            count++;
            int at = count * PARTS;
            cells[at + KIND] = kind;
            cells[at + VIEW] = view;
            cells[at + FIRST] = a;
            cells[at + SECOND] = b;
            cells[at + VOID] = isVoid ? 1 : 0;
            if (kind == CHANGE) {
                greatestChange = Math.max(greatestChange, view);
            }
            return count;
        }

        boolean hasPrepared(int view, int request) {
            for (int k = 1; k <= count; k++) {
                if (isOf(k, PREPARE, view) && cells[k * PARTS + FIRST] == request) {
                    return true;
                }
            }
            return false;
        }

        /** Whether MESSAGE k ties its SERVER to a VIEW: CHANGES and VOID ones don't. */
        private boolean isBinding(int k) {
            return k >= 1 && k <= count
                    && cells[k * PARTS + KIND] != CHANGE && cells[k * PARTS + VOID] == 0;
        }

        /** The greatest VIEW below this one that a MESSAGE ahead of number end is bound to; 0 without. */
        int lastViewBelow(int view, int end) {
            int greatest = 0;
            for (int k = 1; k <= count && k < end; k++) {
                int ofView = cells[k * PARTS + VIEW];
                if (ofView < view && isBinding(k)) {
                    greatest = Math.max(greatest, ofView);
                }
            }
            return greatest;
        }

        /** Marks the numbers of the LEADER's MESSAGES of a VIEW that those ahead of number end are or tell. */
        void markTold(int view, int end, boolean[] marks) {
            for (int k = 1; k <= count && k < end; k++) {
                if (cells[k * PARTS + VIEW] != view || !isBinding(k)) {
                    continue;
                }
                int told = cells[k * PARTS + KIND] == COMMIT ? cells[k * PARTS + FIRST] : k;
                if (told >= 0 && told < marks.length) {
                    marks[told] = true;
                }
            }
        }

        /** This row, and behind it the REQUESTS of the marked PREPARES of a VIEW: a marked OPENING has none. */
        int[] rowBehind(int[] ahead, int view, boolean[] marks) {
            int length = ahead.length;
            for (int k = 1; k <= count && k < marks.length; k++) {
                if (marks[k] && isOf(k, PREPARE, view)) {
                    length++;
                }
            }
            int[] joined = new int[length];
            System.arraycopy(ahead, 0, joined, 0, ahead.length);
            int at = ahead.length;
            for (int k = 1; k <= count && k < marks.length && at < length; k++) {
                if (marks[k] && isOf(k, PREPARE, view)) {
                    joined[at] = cells[k * PARTS + FIRST];
                    at++;
                }
            }
            return joined;
        }
    }

    /**
     * All that was certified. What is VOID, the OPENINGS and the ROWS hang only on what was
     * certified ahead, so they are found once, as a MESSAGE is entered, and hold for everybody.
     */
    private static final class Book {
        private final Counter[] counters = new Counter[SERVERS];
        private final int[] openings = new int[VIEWS];
        private final int[][] rows = new int[VIEWS][0];
        private final boolean[] marks = new boolean[MOST_MESSAGES + 1];

        Book() {
            for (int i = 0; i < SERVERS; i++) {
                counters[i] = new Counter();
            }
        }

        boolean has(int server, int k) {
            return counters[server].has(k);
        }

        int countOf(int server) {
            return counters[server].count;
        }

        int tell(int server, int k, int what) {
            return counters[server].get(k, what);
        }

        /** The number of the VIEW's OPENING; 0 without one. */
        int openingOf(int view) {
            return openings[view];
        }

        int[] rowOf(int view) {
            return rows[view];
        }

        boolean hasPrepared(int server, int view, int request) {
            return counters[server].hasPrepared(view, request);
        }

        int enter(int server, int kind, int view, int a, int b) {
            Counter c = counters[server];
            if (c.isFull()) {
                return NONE;
            }
            boolean isVoid = isVoid(server, kind, view, a, b);
            int k = c.add(kind, view, a, b, isVoid);
            if (kind == NEW && !isVoid && openings[view] == 0) {
                openings[view] = k;
                makeRow(view, a, b);
            }
            return k;
        }

        private boolean isVoid(int server, int kind, int view, int a, int b) {
            if (kind == CHANGE) {
                return false;
            }
            if (counters[server].greatestChange > view) {
                return true;
            }
            int leader = leaderOf(view);
            if (kind == PREPARE) {
                return leader != server || (view > 0 && openings[view] == 0);
            }
            if (kind == COMMIT) {
                Counter c = counters[leader];
                boolean tellsOpening = a > 0 && a == openings[view];
                boolean tellsPrepare = c.isOf(a, PREPARE, view) && c.get(a, VOID) == 0;
                return leader == server || !(tellsOpening || tellsPrepare);
            }
            return leader != server || view == 0 || serverOf(a) == serverOf(b)
                    || !counters[serverOf(a)].isOf(numberOf(a), CHANGE, view)
                    || !counters[serverOf(b)].isOf(numberOf(b), CHANGE, view);
        }

        private void makeRow(int view, int a, int b) {
            Counter i = counters[serverOf(a)];
            Counter j = counters[serverOf(b)];
            int base = Math.max(i.lastViewBelow(view, numberOf(a)), j.lastViewBelow(view, numberOf(b)));
            for (int k = 0; k < marks.length; k++) {
                marks[k] = false;
            }
            i.markTold(base, numberOf(a), marks);
            j.markTold(base, numberOf(b), marks);
            rows[view] = counters[leaderOf(base)].rowBehind(rows[base], base, marks);
        }
    }

    /** What one SERVER did: its MAP, its HISTORY and its REPLIES. */
    private static final class Store {
        private final Requests requests;
        private final int[] values = new int[KEYS];
        private final int[] lastDone = new int[CLIENTS];
        private final int[] done = new int[MOST_DONE];
        private final boolean[] replied = new boolean[MOST_REQUESTS];
        private final int[] replies = new int[MOST_REQUESTS];
        private int doneCount;

        Store(Requests requests) {
            this.requests = requests;
        }

        int length() {
            return doneCount;
        }

        int doneAt(int k) {
            return k >= 0 && k < doneCount ? done[k] : NONE;
        }

        int valueAt(int key) {
            return key >= 0 && key < KEYS ? values[key] : 0;
        }

        boolean hasReply(int r) {
            return r >= 0 && r < MOST_REQUESTS && replied[r];
        }

        int replyTo(int r) {
            return hasReply(r) ? replies[r] : 0;
        }

        void setReply(int r, int with) {
            if (r >= 0 && r < MOST_REQUESTS) {
                replied[r] = true;
                replies[r] = with;
            }
        }

        void perform(int r) {
            if (!requests.has(r) || doneCount >= MOST_DONE) {
                return;
            }
            done[doneCount] = r;
            doneCount++;
            int client = requests.clientOf(r);
            int own = requests.ownNumberOf(r);
            int key = requests.keyOf(r);
            if (client < 0 || key < 0 || own <= lastDone[client]) {
                return;
            }
            lastDone[client] = own;
            int had = values[key];
            values[key] = requests.valueAfter(r, had);
            setReply(r, requests.resultOf(r, had));
        }
    }

    /** Which MESSAGES were brought to one SERVER, and which it READS next. */
    private static final class Inbox {
        private static final int WIDTH = MOST_MESSAGES + 1;

        private final boolean[] brought = new boolean[SERVERS * WIDTH];
        private final int[] next = new int[SERVERS];

        Inbox() {
            for (int i = 0; i < SERVERS; i++) {
                next[i] = 1;
            }
        }

        void put(int from, int k) {
            if (k >= 1 && k < WIDTH) {
                brought[from * WIDTH + k] = true;
            }
        }

        boolean holdsNext(int from) {
            return next[from] < WIDTH && brought[from * WIDTH + next[from]];
        }

        int nextOf(int from) {
            return next[from];
        }

        void pass(int from) {
            next[from]++;
        }
    }

    /** The PREPARES of a SERVER's present VIEW, and the votes that others than the LEADER gave. */
    private static final class Term {
        private final int[] prepares = new int[MOST_MESSAGES];
        private final boolean[] voted = new boolean[MOST_MESSAGES + 1];
        private int count;
        private int doneCount;
        // VIEW 0 has no OPENING to wait for.
        private boolean openingDone = true;

        void begin() {
            count = 0;
            doneCount = 0;
            openingDone = false;
            for (int i = 0; i < voted.length; i++) {
                voted[i] = false;
            }
        }

        void put(int k) {
            if (count < prepares.length) {
                prepares[count] = k;
                count++;
            }
        }

        void vote(int k) {
            if (k >= 0 && k < voted.length) {
                voted[k] = true;
            }
        }

        boolean hasVote(int k) {
            return k >= 0 && k < voted.length && voted[k];
        }

        /** The next PREPARE to be done; NONE as long as it has no second vote. */
        int nextToDo() {
            return doneCount < count && hasVote(prepares[doneCount]) ? prepares[doneCount] : NONE;
        }
    }

    /** The first two SERVERS, VIEW by VIEW, whose CHANGES to it were READ. */
    private static final class Changes {
        private final int[] first = new int[VIEWS];
        private final int[] second = new int[VIEWS];

        void note(int view, int pair) {
            if (first[view] == 0) {
                first[view] = pair;
            } else if (second[view] == 0 && serverOf(first[view]) != serverOf(pair)) {
                second[view] = pair;
            }
        }

        boolean areOfTwo(int view) {
            return second[view] != 0;
        }
    }

    private static final class Server {
        private final int id;
        private final Book book;
        private final Store store;
        private final Inbox inbox = new Inbox();
        private final Term term = new Term();
        private final Changes changes = new Changes();
        private final int[] asked = new int[SERVERS];
        private int view;
        private boolean active = true;
        private boolean lied;

        Server(int id, Requests requests, Book book) {
            this.id = id;
            this.book = book;
            this.store = new Store(requests);
            for (int i = 0; i < SERVERS; i++) {
                asked[i] = NONE;
            }
        }

        int viewNow() {
            return view;
        }

        boolean isActive() {
            return active;
        }

        boolean hasLied() {
            return lied;
        }

        Store storeOf() {
            return store;
        }

        int greatestAsked() {
            return asked[id];
        }

        int readsNext(int from) {
            return from >= 0 && from < SERVERS ? inbox.nextOf(from) : NONE;
        }

        void startLying() {
            lied = true;
        }

        /** A liar may take back what it asked for; a true SERVER never asks for less. */
        void claimAsking(int wanted) {
            asked[id] = wanted;
        }

        void hearAsking(int from, int wanted) {
            asked[from] = Math.max(asked[from], wanted);
        }

        /** Whether the askings took the SERVER to another VIEW. */
        boolean followsAskings() {
            int lesser = Math.min(asked[0], asked[1]);
            int greater = Math.max(asked[0], asked[1]);
            int secondGreatest = Math.max(lesser, Math.min(greater, asked[2]));
            if (secondGreatest <= view) {
                return false;
            }
            enterView(secondGreatest, false);
            book.enter(id, CHANGE, view, 0, 0);
            return true;
        }

        boolean prepares(int request) {
            if (lied || !active || leaderOf(view) != id || book.hasPrepared(id, view, request)) {
                return false;
            }
            return book.enter(id, PREPARE, view, request, 0) != NONE;
        }

        void receive(int from, int k) {
            inbox.put(from, k);
        }

        /** READS all that can be READ by now: how many MESSAGES of others that were. */
        int readAll() {
            int ofOthers = 0;
            for (int i = 0; i < SERVERS * MOST_MESSAGES; i++) {
                int from = nextSender();
                if (from == NONE) {
                    return ofOthers;
                }
                int k = inbox.nextOf(from);
                inbox.pass(from);
                take(from, k);
                doWhatIsDue();
                if (from != id) {
                    ofOthers++;
                }
            }
            return ofOthers;
        }

        /** Its own come first, since it READS them at once as it certifies them. */
        private int nextSender() {
            if (inbox.nextOf(id) <= book.countOf(id)) {
                return id;
            }
            for (int from = 0; from < SERVERS; from++) {
                if (from != id && inbox.holdsNext(from) && !waits(from, inbox.nextOf(from))) {
                    return from;
                }
            }
            return NONE;
        }

        private boolean waits(int from, int k) {
            int kind = book.tell(from, k, KIND);
            if (kind == CHANGE || kind == NEW || book.tell(from, k, VOID) != 0) {
                return false;
            }
            int ofView = book.tell(from, k, VIEW);
            return ofView > view || (ofView == view && !active);
        }

        private void take(int from, int k) {
            int ofView = book.tell(from, k, VIEW);
            if (book.tell(from, k, VOID) != 0 || ofView < view || ofView >= VIEWS) {
                return;
            }
            switch (book.tell(from, k, KIND)) {
                case PREPARE:
                    term.put(k);
                    if (from != id) {
                        book.enter(id, COMMIT, view, k, 0);
                    }
                    break;
                case COMMIT:
                    term.vote(book.tell(from, k, FIRST));
                    break;
                case CHANGE:
                    changes.note(ofView, pairOf(from, k));
                    if (ofView == view && !active && leaderOf(view) == id && changes.areOfTwo(view)) {
                        book.enter(id, NEW, view, changes.first[view], changes.second[view]);
                    }
                    break;
                default:
                    if (ofView > view || !active) {
                        enterView(ofView, true);
                        if (from != id) {
                            book.enter(id, COMMIT, view, k, 0);
                        }
                    }
                    break;
            }
        }

        private void enterView(int newView, boolean isActive) {
            view = newView;
            active = isActive;
            term.begin();
        }

        private void doWhatIsDue() {
            if (!active) {
                return;
            }
            if (!term.openingDone) {
                if (!term.hasVote(book.openingOf(view))) {
                    return;
                }
                term.openingDone = true;
                int[] due = book.rowOf(view);
                for (int k = store.length(); k < due.length; k++) {
                    store.perform(due[k]);
                }
            }
            for (int i = 0; i < MOST_MESSAGES && term.nextToDo() != NONE; i++) {
                store.perform(book.tell(leaderOf(view), term.nextToDo(), FIRST));
                term.doneCount++;
            }
        }
    }

    /** What each CLIENT was brought, and what it took for the answer. */
    private static final class Answers {
        private final boolean[] brought = new boolean[MOST_REQUESTS * SERVERS];
        private final int[] last = new int[MOST_REQUESTS * SERVERS];
        private final boolean[] answered = new boolean[MOST_REQUESTS];
        private final int[] answer = new int[MOST_REQUESTS];

        void take(int request, int server, int with) {
            if (request < 0 || request >= MOST_REQUESTS || server < 0 || server >= SERVERS) {
                return;
            }
            int base = request * SERVERS;
            brought[base + server] = true;
            last[base + server] = with;
            for (int i = 0; i < SERVERS && !answered[request]; i++) {
                if (i != server && brought[base + i] && last[base + i] == with) {
                    answered[request] = true;
                    answer[request] = with;
                }
            }
        }

        boolean isAnswered(int request) {
            return request >= 0 && request < MOST_REQUESTS && answered[request];
        }

        int answerTo(int request) {
            return isAnswered(request) ? answer[request] : 0;
        }
    }
}
