/** The first lines and part 1 of the document: each sentence that names a bound, with its test. */
public final class TermsBoundsTests extends HouseSteps {

    public static void main(String[] args) {
        Check.sentence("An object is used for at most 512 calls after it has been made",
                TermsBoundsTests::lastOfCalls);
        Check.sentence("SERVERS 0, 1, 2.", TermsBoundsTests::servers);
        Check.sentence("CLIENTS 0 to 3.", TermsBoundsTests::clients);
        Check.sentence("its own next number (from 1 on)", TermsBoundsTests::ownNumbers);
        Check.sentence("a KEY (0 to 3)", TermsBoundsTests::keys);
        Check.sentence("a NUMBER (int)", TermsBoundsTests::numbers);
        Check.sentence("0 READ: the result is what the KEY has", TermsBoundsTests::read);
        Check.sentence("1 PUT: the KEY gets NUMBER, the result is what it had", TermsBoundsTests::put);
        Check.sentence("2 ADD: the KEY gets NUMBER more (it goes round), the result is that",
                TermsBoundsTests::addGoesRound);
        Check.sentence("All KEYS have 0 at first.", TermsBoundsTests::keysAtFirst);
        Check.sentence("REQUESTS are numbered from 0 on, 60 at most.", TermsBoundsTests::sixtyRequests);
        Check.sentence("its MESSAGES are numbered 1, 2, .. as it certifies them, 100 at most",
                TermsBoundsTests::hundredMessages);
        Check.sentence("(then it certifies nothing more)", TermsBoundsTests::fullLeaderPreparesNothing);
        Check.sentence("(then it certifies nothing more)", TermsBoundsTests::fullFollowerCommitsNoPrepare);
        Check.sentence("(then it certifies nothing more)", TermsBoundsTests::fullFollowerCommitsNoOpening);
        Check.sentence("(then it certifies nothing more)", TermsBoundsTests::fullServerChangesViewAlone);
        Check.sentence("(then it certifies nothing more)", TermsBoundsTests::fullByItsChangeOpensNothing);
        Check.sentence("(then it certifies nothing more)", TermsBoundsTests::fullByItsNew);
        Check.sentence("They are certified by it alone, and never change", TermsBoundsTests::neverChange);
        Check.sentence("The LEADER of VIEW w is SERVER w by 3 (what is left).", TermsBoundsTests::leaders);
        Check.sentence("VIEWS are 0 to 30.", TermsBoundsTests::views);
        Check.end("TermsBoundsTests");
    }

    private static void lastOfCalls() {
        CountedHouse h = new CountedHouse();
        for (int i = 0; i < 60; i++) {
            h.request(i % 4, 2, i % 4, 1);
        }
        h.lie(0);
        for (int k = 1; k <= 100; k++) {
            h.certify(0, PREPARE, 0, k % 60, 0);
            h.send(0, k, 1);
            h.send(0, k, 2);
        }
        // 361 calls so far; each of the next is looked at, the 512th too.
        for (int k = 1; k <= 100; k++) {
            Check.eq("READ", h.send(1, k, 2), 1);
        }
        for (int k = 0; k < 50; k++) {
            Check.eq("history", h.history(2, k), (k + 1) % 60);
        }
        Check.eq("the 512th call", h.state(2, 3), 100);
    }

    private static void servers() {
        CountedHouse h = new CountedHouse();
        h.request(0, 1, 0, 5);
        h.bring(0, 0);
        h.send(0, 1, 1);
        h.send(0, 1, 2);
        long before = picture(h);
        for (int s : new int[] {LEAST, -3, -1, 3, 4, MOST}) {
            Check.refuses("bring to " + s, INDEX, () -> h.bring(0, s));
            Check.refuses("send from " + s, INDEX, () -> h.send(s, 1, 0));
            Check.refuses("send to " + s, INDEX, () -> h.send(0, 1, s));
            Check.refuses("late " + s, INDEX, () -> h.late(s));
            Check.refuses("ask from " + s, INDEX, () -> h.ask(s, 0));
            Check.refuses("ask to " + s, INDEX, () -> h.ask(0, s));
            Check.refuses("reply of " + s, INDEX, () -> h.reply(s, 0));
            Check.refuses("lie " + s, INDEX, () -> h.lie(s));
            Check.refuses("certify " + s, INDEX, () -> h.certify(s, CHANGE, 0, 0, 0));
            Check.refuses("askFor " + s, INDEX, () -> h.askFor(s, 0));
            Check.refuses("replyWith " + s, INDEX, () -> h.replyWith(s, 0, 0));
            Check.refuses("state " + s, INDEX, () -> h.state(s, 0));
            Check.refuses("history " + s, INDEX, () -> h.history(s, 0));
            Check.refuses("message of " + s, INDEX, () -> h.message(s, 1, 0));
            Check.refuses("result of " + s, INDEX, () -> h.result(s, 0));
        }
        Check.eq("refused calls change nothing", picture(h), before);
        for (int s = 0; s < 3; s++) {
            Check.eq("a SERVER", h.state(s, 2), 1);
            Check.eq("a SERVER", h.message(s, 1, 0), s == 0 ? PREPARE : COMMIT);
        }
    }

    private static void clients() {
        CountedHouse h = new CountedHouse();
        for (int c : new int[] {LEAST, -1, 4, MOST}) {
            Check.refuses("client " + c, ARGUMENT, () -> h.request(c, 0, 0, 0));
        }
        for (int c = 0; c <= 3; c++) {
            Check.eq("client " + c, h.request(c, 0, 0, 0), c);
            Check.eq("client " + c, h.told(c, 0), c);
        }
    }

    private static void ownNumbers() {
        CountedHouse h = new CountedHouse();
        h.request(2, 0, 0, 0);
        h.request(0, 0, 0, 0);
        h.request(2, 0, 0, 0);
        Check.eq("the first of 2", h.told(0, 1), 1);
        Check.eq("the first of 0", h.told(1, 1), 1);
        Check.eq("the second of 2", h.told(2, 1), 2);
        // A refused one takes no number, of the client or of all.
        Check.refuses("kind", ARGUMENT, () -> h.request(2, 3, 0, 0));
        Check.refuses("key", ARGUMENT, () -> h.request(2, 0, 4, 0));
        Check.eq("all", h.request(2, 0, 0, 0), 3);
        Check.eq("the third of 2", h.told(3, 1), 3);
        for (int i = 4; i < 60; i++) {
            h.request(3, 0, 0, 0);
        }
        Check.eq("the last of 3", h.told(59, 1), 56);
    }

    private static void keys() {
        CountedHouse h = new CountedHouse();
        for (int key : new int[] {LEAST, -1, 4, MOST}) {
            for (int kind = 0; kind <= 2; kind++) {
                int of = kind;
                Check.refuses("key " + key + ", kind " + kind, ARGUMENT, () -> h.request(0, of, key, 0));
            }
        }
        for (int key = 0; key <= 3; key++) {
            h.request(0, 1, key, 40 + key);
            h.bring(key, 0);
            h.send(0, key + 1, 1);
        }
        says("a value at each KEY", h, 1, 0, 1, 4, 4, 0, NONE, 5, 5, 1, 40, 41, 42, 43);
    }

    /** One REQUEST after the other of client 0, done by server 1: its result. */
    private static int does(CountedHouse h, int kind, int key, int number) {
        int r = h.request(0, kind, key, number);
        h.bring(r, 0);
        h.send(0, r + 1, 1);
        return h.result(1, r);
    }

    private static void numbers() {
        CountedHouse h = new CountedHouse();
        int[] extremes = {LEAST, LEAST + 1, -1, 0, 1, MOST - 1, MOST};
        for (int number : extremes) {
            does(h, 1, 2, number);
            Check.eq("PUT " + number, h.state(1, 11), number);
            Check.eq("READ of it", does(h, 0, 2, 0), number);
        }
    }

    private static void read() {
        CountedHouse h = new CountedHouse();
        Check.eq("READ of what has nothing yet", does(h, 0, 1, 77), 0);
        Check.eq("and gets nothing", h.state(1, 10), 0);
        does(h, 1, 1, 6);
        Check.eq("READ", does(h, 0, 1, LEAST), 6);
        Check.eq("READ changes nothing", h.state(1, 10), 6);
        Check.eq("another KEY", does(h, 0, 0, 6), 0);
    }

    private static void put() {
        CountedHouse h = new CountedHouse();
        Check.eq("the first PUT: it had 0", does(h, 1, 3, MOST), 0);
        Check.eq("what it had", does(h, 1, 3, LEAST), MOST);
        Check.eq("what it had", does(h, 1, 3, 0), LEAST);
        Check.eq("it gets NUMBER, not more", h.state(1, 12), 0);
        Check.eq("what it had", does(h, 1, 3, 5), 0);
        Check.eq("it gets NUMBER", h.state(1, 12), 5);
    }

    private static void addGoesRound() {
        CountedHouse h = new CountedHouse();
        Check.eq("to the top", does(h, 2, 0, MOST), MOST);
        Check.eq("round from the top", does(h, 2, 0, 1), LEAST);
        Check.eq("the KEY has that", h.state(1, 9), LEAST);
        Check.eq("round from the bottom", does(h, 2, 0, -1), MOST);
        Check.eq("the top twice", does(h, 2, 0, MOST), -2);
        Check.eq("to the bottom", does(h, 2, 0, LEAST + 2), LEAST);
        Check.eq("the bottom twice", does(h, 2, 0, LEAST), 0);
        Check.eq("nothing more", does(h, 2, 0, 0), 0);
        Check.eq("the KEY has that", h.state(1, 9), 0);
    }

    private static void keysAtFirst() {
        CountedHouse h = new CountedHouse();
        for (int server = 0; server < 3; server++) {
            for (int key = 0; key <= 3; key++) {
                Check.eq("KEY " + key, h.state(server, 9 + key), 0);
            }
        }
        for (int key = 0; key <= 3; key++) {
            Check.eq("READ of KEY " + key, does(h, 0, key, 9), 0);
        }
        // A REPLY of 0 is one: there is none of those that did nothing.
        Check.eq("a REPLY of 0", h.reply(1, 0), 0);
        Check.eq("no REPLY", h.reply(2, 0), NONE);
    }

    private static void sixtyRequests() {
        CountedHouse h = new CountedHouse();
        for (int i = 0; i < 60; i++) {
            int next = i + 1;
            Check.eq("its number", h.request(3, 0, 0, 0), i);
            Check.refuses("not made yet", INDEX, () -> h.told(next, 0));
        }
        Check.refuses("the 61st", STATE, () -> h.request(0, 0, 0, 0));
        Check.refuses("the 61st of another kind", STATE, () -> h.request(3, 2, 3, MOST));
        Check.eq("the last", h.told(59, 1), 60);
        Check.refuses("none behind the last", INDEX, () -> h.told(60, 1));
        Check.refuses("none behind the last", INDEX, () -> h.bring(60, 0));
        Check.eq("the last is brought", h.bring(59, 0), 1);
        Check.eq("and done", h.send(0, 1, 2), 1);
        historyIs("the last", h, 2, 59);
    }

    private static void hundredMessages() {
        CountedHouse h = new CountedHouse();
        h.lie(1);
        Check.refuses("none yet", INDEX, () -> h.message(1, 1, 0));
        for (int k = 1; k <= 100; k++) {
            Check.eq("its number", h.certify(1, CHANGE, k % 31, 0, 0), k);
            Check.eq("how many", h.state(1, 2), k);
        }
        Check.eq("the 101st", h.certify(1, CHANGE, 0, 0, 0), NONE);
        Check.eq("the 102nd", h.certify(1, NEW, 1, 3, 5), NONE);
        Check.eq("how many", h.state(1, 2), 100);
        isMessage("the first", h, 1, 1, CHANGE, 1, 0, 0, 0);
        isMessage("the 100th", h, 1, 100, CHANGE, 100 % 31, 0, 0, 0);
        Check.refuses("no 0th", INDEX, () -> h.message(1, 0, 0));
        Check.refuses("no 101st", INDEX, () -> h.message(1, 101, 0));
        Check.refuses("no 101st", INDEX, () -> h.send(1, 101, 0));
        // Each has a COUNTER of its own.
        h.late(0);
        h.late(2);
        Check.eq("another one", h.ask(0, 2), 1);
        isMessage("another one's first", h, 2, 1, CHANGE, 1, 0, 0, 0);
    }

    private static void fullLeaderPreparesNothing() {
        CountedHouse h = new CountedHouse();
        for (int i = 0; i < 60; i++) {
            h.request(0, 0, 0, 0);
            h.bring(i, 0);
        }
        h.lie(2);
        h.certify(2, CHANGE, 3, 0, 0);
        h.askFor(2, 3);
        h.ask(2, 0);
        h.late(0);
        h.late(0);
        h.late(0);
        h.send(2, 1, 0);
        for (int i = 0; i < 35; i++) {
            h.bring(i, 0);
        }
        says("one place is left", h, 0, 3, 1, 99);
        Check.eq("the 100th", h.bring(35, 0), 1);
        Check.eq("no 101st", h.bring(36, 0), 0);
        says("full", h, 0, 3, 1, 100, 0, 0, 3, 101);
        isMessage("the 100th", h, 0, 100, PREPARE, 3, 35, 0, 0);
    }

    private static void fullFollowerCommitsNoPrepare() {
        // The liar leads VIEW 2; server 1 certified two CHANGES on its way there, one more than the liar.
        CountedHouse h = new CountedHouse();
        h.request(0, 2, 0, 1);
        h.request(1, 2, 0, 1000);
        h.lie(2);
        h.askFor(2, 2);
        h.ask(2, 1);
        h.late(1);
        h.late(1);
        h.certify(2, CHANGE, 2, 0, 0);
        h.certify(2, NEW, 2, 7, 5);
        for (int k = 3; k <= 99; k++) {
            h.certify(2, PREPARE, 2, 0, 0);
        }
        h.certify(2, PREPARE, 2, 1, 0);
        for (int k = 1; k <= 99; k++) {
            h.send(2, k, 1);
            h.send(2, k, 0);
        }
        says("full by its COMMITS", h, 1, 2, 1, 100, 97, 0, 2, 1, 101, 100, 1);
        isMessage("the 100th", h, 1, 100, COMMIT, 2, 99, 0, 0);
        Check.eq("the next PREPARE is READ", h.send(2, 100, 1), 1);
        says("but not committed, so not done", h, 1, 2, 1, 100, 97, 0, 2, 1, 101, 101, 1);
        h.send(2, 100, 0);
        says("another one has places", h, 0, 2, 1, 99, 98, 0, NONE, 100, 1, 101, 1001);
        for (int k = 1; k <= 99; k++) {
            h.send(0, k, 1);
        }
        says("done by the vote of another", h, 1, 2, 1, 100, 98, 0, 2, 100, 101, 101, 1001);
    }

    private static void fullFollowerCommitsNoOpening() {
        CountedHouse h = busyFollower(99);
        h.askFor(0, 2);
        h.ask(0, 2);
        h.late(2);
        h.late(2);
        h.ask(0, 1);
        Check.eq("server 1 to VIEW 2", h.ask(2, 1), 1);
        says("full by its CHANGE", h, 1, 2, 0, 100, 99);
        for (int k = 1; k <= 100; k++) {
            h.send(1, k, 2);
        }
        isMessage("server 2 opens VIEW 2", h, 2, 3, NEW, 2, 8, 301, 0);
        for (int k = 1; k <= 3; k++) {
            Check.eq("READ", h.send(2, k, 1), 1);
        }
        says("ACTIVE, and no COMMIT", h, 1, 2, 1, 100, 99, 0, NONE, 100, 101, 4, 1);
        Check.eq("the ROW's last", h.row(2, 98), 0);
        Check.eq("none behind it", h.row(2, 99), NONE);
        Check.eq("server 2 has one vote alone", h.state(2, 3), 0);
    }

    private static void fullServerChangesViewAlone() {
        CountedHouse h = busyFollower(100);
        h.askFor(0, 30);
        h.ask(0, 1);
        for (int w = 1; w <= 30; w++) {
            Check.eq("late", h.late(1), w);
            says("without a CHANGE", h, 1, w, 0, 100, 100, 0, w, 101, 101);
        }
        Check.eq("no VIEW behind 30", h.late(1), NONE);
        isMessage("the last stays", h, 1, 100, COMMIT, 0, 100, 0, 0);
    }

    private static void fullByItsChangeOpensNothing() {
        CountedHouse h = busyFollower(99);
        h.askFor(0, 1);
        h.ask(0, 1);
        h.late(1);
        isMessage("the 100th", h, 1, 100, CHANGE, 1, 0, 0, 0);
        Check.eq("the liar's 100th", h.certify(0, CHANGE, 1, 0, 0), 100);
        Check.eq("READ", h.send(0, 100, 1), 1);
        says("no NEW: it leads VIEW 1 and is not ACTIVE", h, 1, 1, 0, 100, 99, 0, 1, 101, 101);
        Check.eq("so it prepares nothing", h.bring(0, 1), 0);
        rowIs("no OPENING", h, 1);
    }

    private static void fullByItsNew() {
        CountedHouse h = busyFollower(98);
        h.askFor(0, 1);
        h.ask(0, 1);
        h.late(1);
        h.certify(0, CHANGE, 1, 0, 0);
        Check.eq("READ", h.send(0, 99, 1), 1);
        isMessage("the 100th", h, 1, 100, NEW, 1, 99 * 3 + 1, 99 * 3, 0);
        says("ACTIVE", h, 1, 1, 1, 100, 98, 0, 1, 100, 101);
        Check.eq("the ROW's last", h.row(1, 97), 0);
        Check.eq("none behind it", h.row(1, 98), NONE);
        Check.eq("it prepares nothing", h.bring(0, 1), 0);
        Check.eq("it prepares nothing", h.state(1, 2), 100);
    }

    private static void neverChange() {
        CountedHouse h = new CountedHouse();
        h.request(0, 1, 0, 5);
        h.bring(0, 0);
        h.send(0, 1, 1);
        openViewOne(h);
        h.lie(1);
        h.certify(1, CHANGE, 4, 0, 0);
        h.certify(1, NEW, 1, 4, 5);
        h.certify(1, PREPARE, 1, 0, 0);
        h.certify(1, COMMIT, 0, 1, 0);
        isMessage("PREPARE", h, 0, 1, PREPARE, 0, 0, 0, 0);
        isMessage("COMMIT", h, 1, 1, COMMIT, 0, 1, 0, 0);
        isMessage("CHANGE", h, 1, 2, CHANGE, 1, 0, 0, 0);
        isMessage("NEW", h, 1, 3, NEW, 1, 7, 5, 0);
        isMessage("of another", h, 2, 1, CHANGE, 1, 0, 0, 0);
        isMessage("of another", h, 2, 2, COMMIT, 1, 3, 0, 0);
    }

    private static void leaders() {
        for (int w = 1; w <= 30; w++) {
            int leader = w % 3;
            int liar = (w + 1) % 3;
            int third = (w + 2) % 3;
            CountedHouse h = new CountedHouse();
            h.request(0, 0, 0, 0);
            h.lie(liar);
            h.askFor(liar, w);
            h.certify(liar, CHANGE, w, 0, 0);
            h.ask(liar, leader);
            h.ask(liar, third);
            for (int i = 0; i < w; i++) {
                h.late(leader);
                h.late(third);
            }
            Check.eq("READ", h.send(liar, 1, leader), 1);
            Check.eq("READ", h.send(liar, 1, third), 1);
            says("the LEADER of " + w + " opens it", h, leader, w, 1, w + 1);
            says("another one does not", h, third, w, 0, w);
            Check.eq("the LEADER of " + w + " prepares", h.bring(0, leader), 1);
            isMessage("of " + w, h, leader, w + 2, PREPARE, w, 0, 0, 0);
            Check.eq("another one does not", h.bring(0, third), 0);
        }
    }

    private static void views() {
        CountedHouse h = new CountedHouse();
        h.request(0, 0, 0, 0);
        h.lie(0);
        for (int w : new int[] {LEAST, -1, 31, MOST}) {
            for (int kind = PREPARE; kind <= NEW; kind++) {
                int of = kind;
                Check.refuses("kind " + kind + " of VIEW " + w, ARGUMENT, () -> h.certify(0, of, w, 0, 0));
            }
            Check.refuses("askFor " + w, ARGUMENT, () -> h.askFor(0, w));
            Check.refuses("row of " + w, ARGUMENT, () -> h.row(w, 0));
        }
        Check.eq("nothing certified", h.state(0, 2), 0);
        Check.eq("nothing asked for", h.state(0, 5), NONE);
        for (int w : new int[] {0, 30}) {
            for (int kind = PREPARE; kind <= NEW; kind++) {
                int k = h.certify(0, kind, w, 0, 0);
                Check.eq("kind " + kind + " of VIEW " + w, h.message(0, k, 1), w);
            }
            h.askFor(0, w);
            Check.eq("askFor " + w, h.state(0, 5), w);
            Check.eq("row of " + w, h.row(w, 0), NONE);
        }
    }
}
