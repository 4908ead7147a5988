/** Promises 1 to 17: each sentence that names a bound or a refused call, with its test. */
public final class PromiseBoundsTests extends HouseSteps {
    private static final int[] OUTSIDE = {LEAST, LEAST + 1, -2, -1};

    public static void main(String[] args) {
        fromRequestToSend();
        fromLateToLie();
        ofTheLiar();
        ofServers();
        ofRequests();
        Check.end("PromiseBoundsTests");
    }

    private static void fromRequestToSend() {
        Check.sentence("`CountedHouse()`: All as told in 1 and 3.", PromiseBoundsTests::newObject);
        Check.sentence("A REQUEST: its number.", PromiseBoundsTests::requestNumbers);
        Check.sentence("IllegalArgumentException: no such CLIENT, KIND, KEY", PromiseBoundsTests::requestRefused);
        Check.sentence("IllegalStateException: there are 60.", PromiseBoundsTests::requestFull);
        Check.sentence("A REQUEST is brought to a SERVER: 1, if it certified a PREPARE; 0.",
                PromiseBoundsTests::bringAnswers);
        Check.sentence("IndexOutOfBoundsException: no such REQUEST or SERVER (so below).",
                PromiseBoundsTests::noSuchRequest);
        Check.sentence("how many MESSAGES of others it READ", PromiseBoundsTests::sendCounts);
        Check.sentence("0 of one that has LIED", PromiseBoundsTests::sendToLiar);
        Check.sentence("IndexOutOfBoundsException: no such SERVER or MESSAGE", PromiseBoundsTests::noSuchMessage);
        Check.sentence("IllegalArgumentException: both are the same.", PromiseBoundsTests::sendToItself);
    }

    private static void fromLateToLie() {
        Check.sentence("LATE: the VIEW that it asks for", PromiseBoundsTests::lateAnswers);
        Check.sentence("NONE: VIEW 30 is its own, or it has LIED.", PromiseBoundsTests::lateNone);
        Check.sentence("(the greatest VIEW that it asked for so far; none: nothing is brought)",
                PromiseBoundsTests::askNothing);
        Check.sentence("is brought to another one: 1, if that one changed its VIEW; 0.",
                PromiseBoundsTests::askAnswers);
        Check.sentence("Exceptions as send().", PromiseBoundsTests::askRefused);
        Check.sentence("is brought to its CLIENT: 1: it is ANSWERED by now; 0: it isn't; NONE: there is no such REPLY.",
                PromiseBoundsTests::replyAnswers);
        Check.sentence("A SERVER LIES from now on: true; false, and it doesn't: another one did.",
                PromiseBoundsTests::lieAnswers);
    }

    private static void ofTheLiar() {
        Check.sentence("PREPARE (kind 0; a the REQUEST)", PromiseBoundsTests::certifyPrepare);
        Check.sentence("COMMIT (1; a a number, 0 to 200)", PromiseBoundsTests::certifyCommit);
        Check.sentence("CHANGE (2; a 0)", PromiseBoundsTests::certifyChange);
        Check.sentence("NEW (3; a, b: SERVER (x by 3) and number (x / 3), each 0 to 600)",
                PromiseBoundsTests::certifyNew);
        Check.sentence("NONE: it can't certify any more.", PromiseBoundsTests::certifyFull);
        Check.sentence("IllegalStateException: it has not LIED", PromiseBoundsTests::certifyOfTrueOne);
        Check.sentence("IllegalArgumentException: no such kind, VIEW, REQUEST, number",
                PromiseBoundsTests::certifyKinds);
        Check.sentence("or b is not 0 of others than 3", PromiseBoundsTests::certifySecond);
        Check.sentence("One that has LIED asks for a VIEW (its greatest is that, even if it was greater).",
                PromiseBoundsTests::askForLess);
        Check.sentence("IllegalStateException likewise; IllegalArgumentException: no such VIEW.",
                PromiseBoundsTests::askForRefused);
        Check.sentence("One that has LIED has this REPLY to a REQUEST (in the place of another one).",
                PromiseBoundsTests::replyWithAnother);
        Check.sentence("IllegalStateException likewise.", PromiseBoundsTests::replyWithRefused);
    }

    private static void ofServers() {
        Check.sentence("5 the greatest VIEW it asked for (NONE without)", PromiseBoundsTests::stateOfAsking);
        Check.sentence("(Of one that has LIED 0, 1, 3, 6 to 12 as they were.)", PromiseBoundsTests::stateOfLiar);
        Check.sentence("9 to 12 what its MAP has", PromiseBoundsTests::stateWhat);
        Check.sentence("REQUEST k of a SERVER's HISTORY, from 0 on; NONE without one.",
                PromiseBoundsTests::historyEnds);
        Check.sentence("REQUEST k of a SERVER's HISTORY, from 0 on; NONE without one.",
                PromiseBoundsTests::longHistory);
        Check.sentence("of a COMMIT the number; 0 where there is none", PromiseBoundsTests::messageParts);
        Check.sentence("IndexOutOfBoundsException also: no such MESSAGE", PromiseBoundsTests::messageNumbers);
        Check.sentence("IllegalArgumentException: another what.", PromiseBoundsTests::messageWhat);
        Check.sentence("REQUEST k of the ROW of a VIEW that has an OPENING, or of VIEW 0, from 0 on; NONE without one,"
                + " and of others.", PromiseBoundsTests::rowEnds);
        Check.sentence("and of others. IllegalArgumentException: no such VIEW.", PromiseBoundsTests::rowViews);
    }

    private static void ofRequests() {
        Check.sentence("2 whether it is ANSWERED (1, 0), 3 the result (0 if it isn't).",
                PromiseBoundsTests::toldOfAnswers);
        Check.sentence("Of a REQUEST: 0 its CLIENT, 1 its own number", PromiseBoundsTests::toldWhat);
        Check.sentence("The result that a SERVER's REPLY to a REQUEST has; 0 without one.",
                PromiseBoundsTests::resultWithout);
    }

    private static void newObject() {
        CountedHouse h = new CountedHouse();
        for (int s = 0; s < 3; s++) {
            int server = s;
            says("new", h, s, 0, 1, 0, 0, 0, NONE, 1, 1, 1, 0, 0, 0, 0);
            historyIs("new", h, s);
            Check.refuses("no MESSAGE", INDEX, () -> h.message(server, 1, 0));
            Check.refuses("no MESSAGE", INDEX, () -> h.send(server, 1, (server + 1) % 3));
            Check.refuses("no REQUEST", INDEX, () -> h.bring(0, server));
            Check.eq("no ASKING", h.ask(s, (s + 1) % 3), 0);
        }
        for (int w = 0; w <= 30; w++) {
            rowIs("new", h, w);
        }
        Check.refuses("no REQUEST", INDEX, () -> h.told(0, 0));
        Check.eq("NONE", CountedHouse.NONE, -1);
    }

    private static void requestNumbers() {
        CountedHouse h = new CountedHouse();
        Check.eq("from 0 on", h.request(3, 2, 3, MOST), 0);
        Check.eq("the next", h.request(0, 0, 0, LEAST), 1);
        Check.refuses("a refused one", ARGUMENT, () -> h.request(0, 3, 0, 0));
        Check.eq("takes none", h.request(0, 1, 1, 0), 2);
        CountedHouse g = new CountedHouse();
        Check.eq("another object", g.request(0, 0, 0, 0), 0);
    }

    private static void requestRefused() {
        CountedHouse h = new CountedHouse();
        for (int x : new int[] {LEAST, -1, 4, 5, MOST}) {
            Check.refuses("client " + x, ARGUMENT, () -> h.request(x, 0, 0, 0));
            Check.refuses("key " + x, ARGUMENT, () -> h.request(0, 0, x, 0));
        }
        for (int x : new int[] {LEAST, -1, 3, 4, MOST}) {
            Check.refuses("kind " + x, ARGUMENT, () -> h.request(0, x, 0, 0));
        }
        Check.refuses("no REQUEST was made", INDEX, () -> h.told(0, 0));
        Check.eq("each at its least", h.request(0, 0, 0, 0), 0);
        Check.eq("each at its greatest", h.request(3, 2, 3, 0), 1);
    }

    private static void requestFull() {
        CountedHouse h = new CountedHouse();
        for (int i = 0; i < 59; i++) {
            h.request(1, 0, 0, 0);
        }
        Check.eq("the 60th", h.request(1, 0, 0, 0), 59);
        Check.refuses("the 61st", STATE, () -> h.request(1, 0, 0, 0));
        Check.refuses("again", STATE, () -> h.request(2, 0, 0, 0));
        Check.refuses("wrong besides", ARGUMENT, () -> h.request(-1, 0, 0, 0));
        Check.refuses("wrong besides", ARGUMENT, () -> h.request(0, 3, 0, 0));
        Check.refuses("wrong besides", ARGUMENT, () -> h.request(0, 0, 4, 0));
        Check.refuses("no 61st", INDEX, () -> h.told(60, 0));
    }

    private static void bringAnswers() {
        CountedHouse h = new CountedHouse();
        h.request(0, 1, 0, 5);
        Check.eq("no LEADER", h.bring(0, 2), 0);
        Check.eq("the LEADER", h.bring(0, 0), 1);
        Check.eq("again", h.bring(0, 0), 0);
        Check.eq("one PREPARE", h.state(0, 2), 1);
        h.request(0, 1, 0, 5);
        h.lie(0);
        Check.eq("a liar", h.bring(1, 0), 0);
        Check.eq("one PREPARE", h.state(0, 2), 1);
    }

    private static void noSuchRequest() {
        CountedHouse h = new CountedHouse();
        for (int made = 0; made <= 2; made++) {
            for (int r : new int[] {LEAST, -1, made, made + 1, 59, 60, MOST}) {
                Check.refuses("bring " + r, INDEX, () -> h.bring(r, 0));
                Check.refuses("reply " + r, INDEX, () -> h.reply(0, r));
                Check.refuses("replyWith " + r, INDEX, () -> h.replyWith(0, r, 0));
                Check.refuses("told " + r, INDEX, () -> h.told(r, 0));
                Check.refuses("result " + r, INDEX, () -> h.result(0, r));
            }
            h.request(made, 0, 0, 0);
            Check.eq("the last that was made", h.told(made, 0), made);
            Check.eq("the last that was made", h.bring(made, 0), 1);
        }
    }

    private static void sendCounts() {
        CountedHouse h = new CountedHouse();
        for (int i = 0; i < 3; i++) {
            h.request(i, 2, 0, 1);
            h.bring(i, 0);
        }
        Check.eq("none", h.send(0, 2, 1), 0);
        Check.eq("two; its own two COMMITS are not counted", h.send(0, 1, 1), 2);
        Check.eq("its own two COMMITS", h.state(1, 2), 2);
        Check.eq("none that it READ ahead", h.send(0, 1, 1), 0);
        Check.eq("one", h.send(0, 3, 1), 1);
        // One that frees some of the other one: the NEW, and a COMMIT that waited.
        CountedHouse g = new CountedHouse();
        openViewOne(g);
        g.send(2, 1, 0);
        g.send(2, 2, 0);
        g.send(1, 1, 0);
        Check.eq("two of both others", g.send(1, 2, 0), 2);
        // A liar's hundred at once.
        CountedHouse f = new CountedHouse();
        f.lie(2);
        for (int k = 1; k <= 100; k++) {
            f.certify(2, CHANGE, 0, 0, 0);
        }
        for (int k = 100; k >= 2; k--) {
            f.send(2, k, 1);
        }
        Check.eq("a hundred", f.send(2, 1, 1), 100);
        Check.eq("none is left", f.state(1, 8), 101);
        Check.eq("none is left", f.send(2, 100, 1), 0);
    }

    private static void sendToLiar() {
        CountedHouse h = new CountedHouse();
        h.request(0, 2, 0, 1);
        h.bring(0, 0);
        h.lie(1);
        Check.eq("a liar READS nothing", h.send(0, 1, 1), 0);
        says("as it was", h, 1, 0, 1, 0, 0, 1, NONE, 1, 1, 1);
        Check.refuses("no such MESSAGE", INDEX, () -> h.send(0, 2, 1));
        Check.refuses("to itself", INDEX, () -> h.send(1, 1, 1));
        h.certify(1, CHANGE, 0, 0, 0);
        Check.refuses("to itself", ARGUMENT, () -> h.send(1, 1, 1));
        Check.eq("what it certifies is READ by others", h.send(1, 1, 2), 1);
    }

    private static void noSuchMessage() {
        CountedHouse h = new CountedHouse();
        for (int count = 0; count <= 2; count++) {
            for (int k : new int[] {LEAST, -1, 0, count + 1, count + 2, 100, 101, MOST}) {
                Check.refuses("send " + k + " of " + count, INDEX, () -> h.send(0, k, 1));
            }
            h.request(0, 0, 0, 0);
            h.bring(count, 0);
            Check.eq("the last", h.send(0, count + 1, 1), 1);
        }
    }

    private static void sendToItself() {
        CountedHouse h = new CountedHouse();
        h.request(0, 0, 0, 0);
        h.bring(0, 0);
        h.send(0, 1, 1);
        h.send(0, 1, 2);
        for (int s = 0; s < 3; s++) {
            int server = s;
            Check.refuses("to itself", ARGUMENT, () -> h.send(server, 1, server));
            Check.refuses("to itself, no such MESSAGE", INDEX, () -> h.send(server, 2, server));
            Check.refuses("to itself, no such MESSAGE", INDEX, () -> h.send(server, 0, server));
        }
        Check.refuses("no such SERVER, twice", INDEX, () -> h.send(3, 1, 3));
        Check.refuses("no such SERVER, twice", INDEX, () -> h.send(-1, 1, -1));
    }

    private static void lateAnswers() {
        CountedHouse h = new CountedHouse();
        Check.eq("VIEW 1", h.late(0), 1);
        Check.eq("VIEW 1 again", h.late(0), 1);
        Check.eq("of another one", h.late(2), 1);
        says("alone it stays", h, 0, 0, 1, 0, 0, 0, 1);
        h.ask(2, 0);
        Check.eq("VIEW 2", h.late(0), 2);
        says("VIEW 1 is its own", h, 0, 1, 0, 1, 0, 0, 2);
    }

    private static void lateNone() {
        CountedHouse h = new CountedHouse();
        h.late(2);
        h.lie(2);
        Check.eq("a liar", h.late(2), NONE);
        Check.eq("its ASKING is as it was", h.state(2, 5), 1);
        h.askFor(2, 30);
        Check.eq("a liar", h.late(2), NONE);
        Check.eq("its ASKING is as it was", h.state(2, 5), 30);
        h.ask(2, 1);
        for (int w = 1; w <= 30; w++) {
            Check.eq("below VIEW 30", h.late(1), w);
        }
        Check.eq("VIEW 30", h.late(1), NONE);
        Check.eq("again", h.late(1), NONE);
        says("as it was", h, 1, 30, 0, 30, 0, 0, 30);
    }

    private static void askNothing() {
        CountedHouse h = new CountedHouse();
        Check.eq("none", h.ask(0, 1), 0);
        h.late(1);
        Check.eq("none, and its own", h.ask(0, 1), 0);
        h.lie(2);
        Check.eq("none of a liar", h.ask(2, 1), 0);
        says("as it was", h, 1, 0, 1, 0, 0, 0, 1);
        h.askFor(2, 0);
        Check.eq("VIEW 0", h.ask(2, 1), 0);
        h.askFor(2, 30);
        Check.eq("VIEW 30", h.ask(2, 1), 1);
        says("the lesser", h, 1, 1, 0, 1, 0, 0, 1);
    }

    private static void askAnswers() {
        CountedHouse h = new CountedHouse();
        h.late(0);
        h.late(1);
        Check.eq("to a third one, alone", h.ask(0, 2), 0);
        Check.eq("to a third one, the second", h.ask(1, 2), 1);
        Check.eq("again", h.ask(1, 2), 0);
        says("its own is none", h, 2, 1, 0, 1, 0, 0, NONE);
        Check.eq("one that asked itself", h.ask(0, 1), 1);
        h.lie(0);
        Check.eq("to a liar", h.ask(1, 0), 0);
        says("as it was", h, 0, 0, 1, 0, 0, 1, 1);
    }

    private static void askRefused() {
        CountedHouse h = new CountedHouse();
        h.late(0);
        long before = picture(h);
        for (int s = 0; s < 3; s++) {
            int server = s;
            Check.refuses("of itself", ARGUMENT, () -> h.ask(server, server));
            for (int x : new int[] {LEAST, -1, 3, MOST}) {
                Check.refuses("from " + x, INDEX, () -> h.ask(x, server));
                Check.refuses("to " + x, INDEX, () -> h.ask(server, x));
                Check.refuses("both " + x, INDEX, () -> h.ask(x, x));
            }
        }
        Check.eq("nothing changed", picture(h), before);
        h.lie(1);
        Check.refuses("a liar of itself", ARGUMENT, () -> h.ask(1, 1));
    }

    private static void replyAnswers() {
        CountedHouse h = new CountedHouse();
        h.request(0, 2, 0, 6);
        h.request(1, 2, 0, 1);
        for (int s = 0; s < 3; s++) {
            Check.eq("no REPLY", h.reply(s, 0), NONE);
        }
        h.bring(0, 0);
        Check.eq("prepared, not done", h.reply(0, 0), NONE);
        h.send(0, 1, 1);
        Check.eq("one", h.reply(1, 0), 0);
        h.send(0, 1, 2);
        Check.eq("two", h.reply(2, 0), 1);
        Check.eq("no REPLY, though it is ANSWERED", h.reply(0, 0), NONE);
        h.send(1, 1, 0);
        Check.eq("ANSWERED by now", h.reply(0, 0), 1);
        Check.eq("not another one", h.reply(1, 1), NONE);
        Check.eq("not another one", h.told(1, 2), 0);
    }

    private static void lieAnswers() {
        CountedHouse h = new CountedHouse();
        h.request(0, 1, 0, 5);
        h.bring(0, 0);
        for (int x : new int[] {LEAST, -1, 3, MOST}) {
            Check.refuses("no such SERVER", INDEX, () -> h.lie(x));
        }
        Check.eq("nobody lies", h.state(0, 4) + h.state(1, 4) + h.state(2, 4), 0);
        Check.yes("server 2", h.lie(2));
        Check.no("server 0", h.lie(0));
        Check.eq("and it doesn't", h.state(0, 4), 0);
        Check.no("server 1", h.lie(1));
        Check.eq("it READS", h.send(0, 1, 1), 1);
        Check.eq("it is LATE", h.late(0), 1);
        Check.yes("server 2 again", h.lie(2));
        Check.refuses("no such SERVER", INDEX, () -> h.lie(3));
    }

    /** A liar, server 1, with two REQUESTS made. */
    private static CountedHouse withLiar() {
        CountedHouse h = new CountedHouse();
        h.request(0, 1, 0, 5);
        h.request(1, 1, 0, 6);
        h.lie(1);
        return h;
    }

    private static void certifyPrepare() {
        CountedHouse h = withLiar();
        for (int a : new int[] {LEAST, -1, 2, 59, 60, MOST}) {
            Check.refuses("REQUEST " + a, ARGUMENT, () -> h.certify(1, PREPARE, 0, a, 0));
        }
        Check.eq("the first", h.certify(1, PREPARE, 0, 0, 0), 1);
        Check.eq("the last", h.certify(1, PREPARE, 30, 1, 0), 2);
        isMessage("the last", h, 1, 2, PREPARE, 30, 1, 0, 1);
        Check.eq("one more", h.request(0, 0, 0, 0), 2);
        Check.eq("the last by now", h.certify(1, PREPARE, 0, 2, 0), 3);
        CountedHouse g = new CountedHouse();
        g.lie(0);
        Check.refuses("none was made", ARGUMENT, () -> g.certify(0, PREPARE, 0, 0, 0));
    }

    private static void certifyCommit() {
        CountedHouse h = withLiar();
        for (int a : new int[] {LEAST, -1, 201, MOST}) {
            Check.refuses("number " + a, ARGUMENT, () -> h.certify(1, COMMIT, 0, a, 0));
        }
        Check.eq("the least", h.certify(1, COMMIT, 0, 0, 0), 1);
        Check.eq("the greatest", h.certify(1, COMMIT, 30, 200, 0), 2);
        isMessage("the least", h, 1, 1, COMMIT, 0, 0, 0, 1);
        isMessage("the greatest", h, 1, 2, COMMIT, 30, 200, 0, 1);
    }

    private static void certifyChange() {
        CountedHouse h = withLiar();
        for (int a : new int[] {LEAST, -1, 1, MOST}) {
            Check.refuses("a " + a, ARGUMENT, () -> h.certify(1, CHANGE, 1, a, 0));
        }
        Check.eq("0", h.certify(1, CHANGE, 0, 0, 0), 1);
        Check.eq("0", h.certify(1, CHANGE, 30, 0, 0), 2);
        isMessage("the last VIEW", h, 1, 2, CHANGE, 30, 0, 0, 0);
    }

    private static void certifyNew() {
        CountedHouse h = withLiar();
        for (int x : new int[] {LEAST, -1, 601, MOST}) {
            Check.refuses("a " + x, ARGUMENT, () -> h.certify(1, NEW, 1, x, 0));
            Check.refuses("b " + x, ARGUMENT, () -> h.certify(1, NEW, 1, 0, x));
            Check.refuses("both " + x, ARGUMENT, () -> h.certify(1, NEW, 1, x, x));
        }
        Check.eq("the least", h.certify(1, NEW, 0, 0, 0), 1);
        Check.eq("the greatest", h.certify(1, NEW, 30, 600, 600), 2);
        Check.eq("both ends", h.certify(1, NEW, 30, 600, 0), 3);
        Check.eq("both ends", h.certify(1, NEW, 30, 0, 600), 4);
        isMessage("the greatest", h, 1, 2, NEW, 30, 600, 600, 1);
        isMessage("both ends", h, 1, 3, NEW, 30, 600, 0, 1);
        isMessage("both ends", h, 1, 4, NEW, 30, 0, 600, 1);
    }

    private static void certifyFull() {
        CountedHouse h = withLiar();
        for (int k = 1; k <= 99; k++) {
            h.certify(1, CHANGE, 1, 0, 0);
        }
        Check.eq("the last", h.certify(1, PREPARE, 0, 0, 0), 100);
        Check.eq("PREPARE", h.certify(1, PREPARE, 0, 0, 0), NONE);
        Check.eq("COMMIT", h.certify(1, COMMIT, 0, 1, 0), NONE);
        Check.eq("CHANGE", h.certify(1, CHANGE, 0, 0, 0), NONE);
        Check.eq("NEW", h.certify(1, NEW, 1, 0, 0), NONE);
        Check.refuses("wrong besides", ARGUMENT, () -> h.certify(1, 4, 0, 0, 0));
        Check.refuses("wrong besides", ARGUMENT, () -> h.certify(1, CHANGE, 31, 0, 0));
        Check.eq("how many", h.state(1, 2), 100);
        // It asks and replies as ever.
        h.askFor(1, 4);
        h.replyWith(1, 0, 3);
        Check.eq("it asks", h.state(1, 5), 4);
        Check.eq("it replies", h.reply(1, 0), 0);
    }

    private static void certifyOfTrueOne() {
        CountedHouse h = new CountedHouse();
        for (int s = 0; s < 3; s++) {
            int server = s;
            Check.refuses("nobody lied", STATE, () -> h.certify(server, CHANGE, 0, 0, 0));
            Check.refuses("wrong besides", STATE, () -> h.certify(server, 9, 31, -1, -1));
        }
        h.lie(1);
        Check.refuses("another one lied", STATE, () -> h.certify(0, CHANGE, 0, 0, 0));
        Check.refuses("another one lied", STATE, () -> h.certify(2, CHANGE, 0, 0, 0));
        Check.eq("the liar", h.certify(1, CHANGE, 0, 0, 0), 1);
        Check.refuses("no such SERVER, and all wrong", INDEX, () -> h.certify(3, 9, 31, -1, -1));
        Check.eq("nothing certified", h.state(0, 2) + h.state(2, 2), 0);
    }

    private static void certifyKinds() {
        CountedHouse h = withLiar();
        for (int kind : new int[] {LEAST, -1, 4, 5, MOST}) {
            Check.refuses("kind " + kind, ARGUMENT, () -> h.certify(1, kind, 0, 0, 0));
        }
        for (int kind = PREPARE; kind <= NEW; kind++) {
            for (int view : new int[] {LEAST, -1, 31, MOST}) {
                int of = kind;
                Check.refuses("kind " + kind + ", VIEW " + view, ARGUMENT, () -> h.certify(1, of, view, 0, 0));
            }
        }
        Check.eq("nothing certified", h.state(1, 2), 0);
        for (int kind = PREPARE; kind <= NEW; kind++) {
            Check.eq("kind " + kind, h.certify(1, kind, 30, 0, 0), kind + 1);
            Check.eq("kind " + kind, h.message(1, kind + 1, 0), kind);
        }
    }

    private static void certifySecond() {
        CountedHouse h = withLiar();
        for (int kind = PREPARE; kind <= CHANGE; kind++) {
            for (int b : new int[] {LEAST, -1, 1, 600, MOST}) {
                int of = kind;
                Check.refuses("kind " + kind + ", b " + b, ARGUMENT, () -> h.certify(1, of, 0, 0, b));
            }
        }
        Check.eq("nothing certified", h.state(1, 2), 0);
        Check.eq("of kind 3 it may be another", h.certify(1, NEW, 0, 0, 1), 1);
    }

    private static void askForLess() {
        CountedHouse h = new CountedHouse();
        h.lie(1);
        Check.eq("none yet", h.state(1, 5), NONE);
        for (int view : new int[] {0, 30, 29, 1, 0, 0, 30}) {
            h.askFor(1, view);
            Check.eq("its greatest", h.state(1, 5), view);
        }
        says("nothing else", h, 1, 0, 1, 0, 0, 1, 30);
        h.askFor(1, 1);
        h.ask(1, 0);
        h.late(0);
        h.late(0);
        says("1 was brought, not 30", h, 0, 1, 0, 1, 0, 0, 2);
    }

    private static void askForRefused() {
        CountedHouse h = new CountedHouse();
        for (int s = 0; s < 3; s++) {
            int server = s;
            Check.refuses("nobody lied", STATE, () -> h.askFor(server, 1));
            Check.refuses("no such VIEW besides", STATE, () -> h.askFor(server, 31));
        }
        h.lie(2);
        Check.refuses("another one lied", STATE, () -> h.askFor(0, 1));
        for (int view : new int[] {LEAST, -1, 31, MOST}) {
            Check.refuses("VIEW " + view, ARGUMENT, () -> h.askFor(2, view));
        }
        Check.refuses("no such SERVER", INDEX, () -> h.askFor(3, 31));
        Check.eq("nothing asked for", h.state(2, 5), NONE);
        Check.eq("nothing asked for", h.state(0, 5), NONE);
    }

    private static void replyWithAnother() {
        CountedHouse h = new CountedHouse();
        h.request(0, 2, 0, 6);
        h.request(1, 2, 0, 1);
        h.bring(0, 0);
        h.send(0, 1, 1);
        h.lie(1);
        Check.eq("its own", h.result(1, 0), 6);
        for (int result : new int[] {LEAST, -1, 0, 6, MOST}) {
            h.replyWith(1, 0, result);
            Check.eq("in its place", h.result(1, 0), result);
        }
        Check.eq("there was none", h.reply(1, 1), NONE);
        h.replyWith(1, 1, 0);
        Check.eq("a REPLY of 0", h.reply(1, 1), 0);
        Check.eq("of others there is none", h.reply(0, 0), NONE);
        Check.eq("its MAP is as it was", h.state(1, 9), 6);
    }

    private static void replyWithRefused() {
        CountedHouse h = new CountedHouse();
        h.lie(2);
        Check.refuses("none was made", INDEX, () -> h.replyWith(2, 0, 0));
        h.request(0, 2, 0, 6);
        Check.refuses("a true one", STATE, () -> h.replyWith(0, 0, 0));
        Check.refuses("a true one", STATE, () -> h.replyWith(1, 0, 0));
        Check.refuses("a true one, no such REQUEST", INDEX, () -> h.replyWith(1, 1, 0));
        Check.refuses("no such SERVER", INDEX, () -> h.replyWith(3, 0, 0));
        Check.refuses("no such REQUEST", INDEX, () -> h.replyWith(2, -1, 0));
        Check.refuses("no such REQUEST", INDEX, () -> h.replyWith(2, 1, 0));
        for (int s = 0; s < 3; s++) {
            Check.eq("no REPLY", h.reply(s, 0), NONE);
        }
    }

    private static void stateOfAsking() {
        CountedHouse h = new CountedHouse();
        Check.eq("without", h.state(0, 5), NONE);
        h.late(0);
        Check.eq("its own", h.state(0, 5), 1);
        h.late(1);
        h.ask(0, 2);
        h.ask(1, 2);
        Check.eq("what others asked for is not its own", h.state(2, 5), NONE);
        Check.eq("though it went there", h.state(2, 0), 1);
        h.lie(2);
        Check.eq("a liar without", h.state(2, 5), NONE);
        h.askFor(2, 0);
        Check.eq("VIEW 0 is one", h.state(2, 5), 0);
    }

    private static void stateOfLiar() {
        // Server 1 lies in VIEW 1, ACTIVE, with one REQUEST done.
        CountedHouse h = new CountedHouse();
        h.request(0, 1, 2, 5);
        h.request(1, 1, 2, 6);
        h.bring(0, 0);
        h.send(0, 1, 1);
        openViewOne(h);
        h.lie(1);
        says("as it was", h, 1, 1, 1, 3, 1, 1, 1, 2, 4, 3, 0, 0, 5, 0);
        h.late(2);
        h.late(0);
        Check.eq("server 0 goes to VIEW 1", h.ask(2, 0), 1);
        Check.eq("nothing is brought to a liar", h.ask(2, 1) + h.ask(0, 1), 0);
        Check.eq("it READS nothing", h.send(0, 2, 1), 0);
        Check.eq("it prepares nothing", h.bring(1, 1), 0);
        h.certify(1, PREPARE, 1, 1, 0);
        h.certify(1, CHANGE, 30, 0, 0);
        h.askFor(1, 7);
        says("but what it certified and asked for", h, 1, 1, 1, 5, 1, 1, 7, 2, 4, 3, 0, 0, 5, 0);
        historyIs("as it was", h, 1, 0);
        CountedHouse g = new CountedHouse();
        bothLate(g, 0, 1);
        g.lie(1);
        g.send(0, 1, 1);
        says("not ACTIVE as it was", g, 1, 1, 0, 1, 0, 1, 1, 1, 2, 1);
    }

    private static void stateWhat() {
        CountedHouse h = new CountedHouse();
        for (int what : new int[] {LEAST, -1, 13, 14, MOST}) {
            for (int s = 0; s < 3; s++) {
                int server = s;
                Check.refuses("what " + what, ARGUMENT, () -> h.state(server, what));
            }
            Check.refuses("no such SERVER, and what " + what, INDEX, () -> h.state(3, what));
        }
        h.request(0, 1, 3, 9);
        h.bring(0, 0);
        h.send(0, 1, 2);
        Check.eq("the least", h.state(2, 0), 0);
        Check.eq("the greatest", h.state(2, 12), 9);
        h.lie(0);
        Check.refuses("of a liar", ARGUMENT, () -> h.state(0, 13));
    }

    private static void historyEnds() {
        CountedHouse h = new CountedHouse();
        for (int s = 0; s < 3; s++) {
            historyIs("empty", h, s);
        }
        h.request(0, 0, 0, 0);
        h.request(1, 0, 0, 0);
        h.bring(1, 0);
        h.bring(0, 0);
        sendRest(h, 0, 1);
        historyIs("two", h, 1, 1, 0);
        for (int k : OUTSIDE) {
            Check.eq("ahead", h.history(1, k), NONE);
        }
        for (int k : new int[] {2, 3, 60, 100, 299, 300, 301, MOST}) {
            Check.eq("behind", h.history(1, k), NONE);
        }
        Check.refuses("no such SERVER, no such k", INDEX, () -> h.history(3, -1));
        CountedHouse g = busyFollower(100);
        Check.eq("the hundredth", g.history(1, 99), 0);
        Check.eq("none behind it", g.history(1, 100), NONE);
    }

    /** From the first to the last of these, in order: as long as a run of calls lets them be sent. */
    private static void send(CountedHouse h, int from, int first, int last, int to) {
        for (int k = first; k <= last; k++) {
            h.send(from, k, to);
        }
    }

    private static void longHistory() {
        // 48 in VIEW 0 by servers 0 and 1, 48 in VIEW 1 by 1 and 2, 46 in VIEW 2 by 2 and 0.
        CountedHouse h = new CountedHouse();
        for (int i = 0; i < 48; i++) {
            h.request(0, 2, 0, 1);
            h.bring(i, 0);
        }
        send(h, 0, 1, 48, 1);
        bothLate(h, 1, 2);
        h.send(2, 1, 1);
        for (int i = 0; i < 48; i++) {
            h.bring(i, 1);
        }
        send(h, 1, 1, 98, 2);
        bothLate(h, 1, 2);
        h.send(1, 99, 2);
        for (int i = 0; i < 46; i++) {
            h.bring(i, 2);
        }
        h.ask(1, 0);
        h.ask(2, 0);
        send(h, 2, 1, 98, 0);
        says("server 0 did all", h, 0, 2, 1, 96, 142);
        bothLate(h, 0, 2);
        Check.eq("READ", h.send(2, 99, 0), 1);
        isMessage("VIEW 3 is open", h, 0, 98, NEW, 3, 97 * 3, 99 * 3 + 2, 0);
        int[][] due = {{0, 0}, {47, 47}, {48, 0}, {95, 47}, {96, 0}, {141, 45}, {142, NONE}};
        for (int[] d : due) {
            Check.eq("history " + d[0], h.history(0, d[0]), d[1]);
            Check.eq("row " + d[0], h.row(3, d[0]), d[1]);
        }
        Check.eq("each with effect once", h.state(0, 9), 48);
    }

    private static void messageParts() {
        CountedHouse h = new CountedHouse();
        h.request(0, 0, 0, 0);
        h.request(1, 0, 0, 0);
        h.bring(1, 0);
        h.send(0, 1, 1);
        openViewOne(h);
        isMessage("PREPARE", h, 0, 1, PREPARE, 0, 1, 0, 0);
        isMessage("COMMIT", h, 1, 1, COMMIT, 0, 1, 0, 0);
        isMessage("CHANGE", h, 1, 2, CHANGE, 1, 0, 0, 0);
        isMessage("NEW", h, 1, 3, NEW, 1, 7, 5, 0);
        isMessage("COMMIT of the NEW", h, 2, 2, COMMIT, 1, 3, 0, 0);
        h.lie(2);
        h.certify(2, PREPARE, 5, 0, 0);
        isMessage("VOID", h, 2, 3, PREPARE, 5, 0, 0, 1);
    }

    private static void messageNumbers() {
        CountedHouse h = new CountedHouse();
        h.lie(0);
        for (int count = 0; count < 3; count++) {
            for (int k : new int[] {LEAST, -1, 0, count + 1, 100, 101, MOST}) {
                for (int what : new int[] {-1, 0, 4, 5}) {
                    Check.refuses("message " + k + " of " + count, INDEX, () -> h.message(0, k, what));
                }
            }
            h.certify(0, CHANGE, 0, 0, 0);
            Check.eq("the last", h.message(0, count + 1, 0), CHANGE);
        }
        Check.refuses("of another one", INDEX, () -> h.message(1, 1, 0));
    }

    private static void messageWhat() {
        CountedHouse h = new CountedHouse();
        h.lie(0);
        for (int kind = COMMIT; kind <= NEW; kind++) {
            int k = h.certify(0, kind, 30, 0, 0);
            for (int what : new int[] {LEAST, -1, 5, 6, MOST}) {
                Check.refuses("what " + what, ARGUMENT, () -> h.message(0, k, what));
            }
            Check.eq("the least", h.message(0, k, 0), kind);
            Check.eq("the greatest", h.message(0, k, 4), kind == CHANGE ? 0 : 1);
        }
    }

    private static void rowEnds() {
        CountedHouse h = new CountedHouse();
        h.request(0, 1, 0, 5);
        h.request(1, 1, 0, 6);
        h.bring(1, 0);
        h.bring(0, 0);
        sendRest(h, 0, 1);
        bothLate(h, 1, 2);
        rowIs("no OPENING yet", h, 1);
        h.send(2, 1, 1);
        rowIs("VIEW 1", h, 1, 1, 0);
        for (int k : OUTSIDE) {
            Check.eq("ahead", h.row(1, k), NONE);
        }
        for (int k : new int[] {2, 3, 60, 100, 300, MOST}) {
            Check.eq("behind", h.row(1, k), NONE);
        }
        rowIs("VIEW 0", h, 0);
        rowIs("VIEW 2 has no OPENING", h, 2);
        rowIs("VIEW 30 has no OPENING", h, 30);
    }

    private static void rowViews() {
        CountedHouse h = new CountedHouse();
        for (int view : new int[] {LEAST, -1, 31, MOST}) {
            for (int k : new int[] {-1, 0, 1}) {
                Check.refuses("VIEW " + view, ARGUMENT, () -> h.row(view, k));
            }
        }
        Check.eq("the least", h.row(0, 0), NONE);
        Check.eq("the greatest", h.row(30, 0), NONE);
    }

    private static void toldOfAnswers() {
        CountedHouse h = new CountedHouse();
        h.request(0, 2, 0, 6);
        h.bring(0, 0);
        h.send(0, 1, 1);
        h.send(0, 1, 2);
        Check.eq("no REPLY brought", h.told(0, 2), 0);
        Check.eq("no REPLY brought", h.told(0, 3), 0);
        h.reply(1, 0);
        Check.eq("one", h.told(0, 2), 0);
        Check.eq("one", h.told(0, 3), 0);
        h.reply(2, 0);
        Check.eq("two", h.told(0, 2), 1);
        Check.eq("two", h.told(0, 3), 6);
    }

    private static void toldWhat() {
        CountedHouse h = new CountedHouse();
        h.request(3, 0, 0, 0);
        h.request(3, 0, 0, 0);
        for (int what : new int[] {LEAST, -1, 4, 5, MOST}) {
            Check.refuses("what " + what, ARGUMENT, () -> h.told(0, what));
            Check.refuses("no such REQUEST, and what " + what, INDEX, () -> h.told(2, what));
        }
        int[] due = {3, 2, 0, 0};
        for (int what = 0; what <= 3; what++) {
            Check.eq("what " + what, h.told(1, what), due[what]);
        }
    }

    private static void resultWithout() {
        CountedHouse h = new CountedHouse();
        h.request(0, 2, 0, 6);
        h.request(1, 0, 1, 0);
        h.bring(0, 0);
        for (int s = 0; s < 3; s++) {
            Check.eq("without", h.result(s, 0), 0);
        }
        h.send(0, 1, 1);
        Check.eq("with one", h.result(1, 0), 6);
        Check.eq("it need not be brought", h.told(0, 2), 0);
        Check.eq("the LEADER is without", h.result(0, 0), 0);
        h.bring(1, 0);
        h.send(0, 2, 1);
        Check.eq("one of 0", h.result(1, 1), 0);
        Check.eq("is a REPLY", h.reply(1, 1), 0);
        h.lie(2);
        Check.eq("a liar without", h.result(2, 0), 0);
        h.replyWith(2, 0, LEAST);
        Check.eq("a liar with one", h.result(2, 0), LEAST);
    }
}
