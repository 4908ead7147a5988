/** The promises one by one, each with its ordinary ways, its edges and its wrong inputs. */
public final class PromiseTests extends HouseSteps {
    public static void main(String[] args) {
        newObject();
        request();
        bring();
        bringInLaterViewsAndFull();
        send();
        sendWaits();
        sendOrder();
        late();
        ask();
        askFreesWhatWaited();
        reply();
        lie();
        certifyArguments();
        certifyVoidPrepares();
        certifyVoidCommits();
        certifyVoidNews();
        certifyFull();
        askFor();
        replyWith();
        state();
        stateOfLiar();
        history();
        message();
        newTellsFirstTwoChanges();
        newWithThreeChanges();
        row();
        rowOverViews();
        rowOfOpeningAlone();
        told();
        result();
        effects();
        openingNeedsTwoVotes();
        longestHistory();
        Check.end("PromiseTests");
    }

    private static void newObject() {
        CountedHouse h = new CountedHouse();
        for (int s = 0; s < 3; s++) {
            says("1 new", h, s, 0, 1, 0, 0, 0, NONE, 1, 1, 1, 0, 0, 0, 0);
            Check.eq("1 history", h.history(s, 0), NONE);
            int server = s;
            Check.refuses("1 no message", INDEX, () -> h.message(server, 1, 0));
            Check.refuses("1 no request", INDEX, () -> h.result(server, 0));
        }
        for (int w = 0; w <= 30; w++) {
            Check.eq("1 row", h.row(w, 0), NONE);
        }
        Check.refuses("1 no request", INDEX, () -> h.told(0, 0));
        Check.eq("1 NONE", CountedHouse.NONE, -1);
        CountedHouse other = new CountedHouse();
        h.request(0, 0, 0, 0);
        h.lie(0);
        Check.yes("1 objects are apart", other.lie(1));
        Check.eq("1 objects are apart", other.request(0, 0, 0, 0), 0);
    }

    private static void request() {
        CountedHouse h = new CountedHouse();
        Check.refuses("2 client", ARGUMENT, () -> h.request(-1, 0, 0, 0));
        Check.refuses("2 client", ARGUMENT, () -> h.request(4, 0, 0, 0));
        Check.refuses("2 kind", ARGUMENT, () -> h.request(0, -1, 0, 0));
        Check.refuses("2 kind", ARGUMENT, () -> h.request(0, 3, 0, 0));
        Check.refuses("2 key", ARGUMENT, () -> h.request(0, 0, -1, 0));
        Check.refuses("2 key", ARGUMENT, () -> h.request(0, 0, 4, 0));
        for (int i = 0; i < 60; i++) {
            Check.eq("2 number", h.request(i % 4, i % 3, i % 4, Integer.MIN_VALUE + i), i);
            Check.eq("2 own number", h.told(i, 1), i / 4 + 1);
            Check.eq("2 client", h.told(i, 0), i % 4);
        }
        Check.refuses("2 sixty", STATE, () -> h.request(0, 0, 0, 0));
        Check.refuses("2 sixty, and wrong", ARGUMENT, () -> h.request(4, 0, 0, 0));
        Check.refuses("2 not made", INDEX, () -> h.told(60, 0));
        Check.eq("2 the last stays", h.told(59, 1), 15);
    }

    private static void bring() {
        CountedHouse h = new CountedHouse();
        Check.refuses("3 request", INDEX, () -> h.bring(0, 0));
        h.request(2, 1, 3, 8);
        h.request(2, 1, 3, 9);
        Check.refuses("3 request", INDEX, () -> h.bring(-1, 0));
        Check.refuses("3 request", INDEX, () -> h.bring(2, 0));
        Check.refuses("3 server", INDEX, () -> h.bring(0, -1));
        Check.refuses("3 server", INDEX, () -> h.bring(0, 3));
        Check.eq("3 no leader", h.bring(1, 1), 0);
        Check.eq("3 no leader", h.bring(1, 2), 0);
        Check.eq("3 leader", h.bring(1, 0), 1);
        Check.eq("3 again", h.bring(1, 0), 0);
        Check.eq("3 another", h.bring(0, 0), 1);
        isMessage("3", h, 0, 1, 0, 0, 1, 0, 0);
        isMessage("3", h, 0, 2, 0, 0, 0, 0, 0);
        says("3", h, 0, 0, 1, 2, 0, 0, NONE, 3, 1, 1);
        Check.eq("3 followers certify nothing", h.state(1, 2), 0);
        h.lie(0);
        h.request(0, 0, 0, 0);
        Check.eq("3 liar", h.bring(2, 0), 0);
        Check.eq("3 liar", h.state(0, 2), 2);
    }

    private static void bringInLaterViewsAndFull() {
        CountedHouse h = new CountedHouse();
        for (int i = 0; i < 60; i++) {
            h.request(0, 0, 0, 0);
            Check.eq("3 prepare", h.bring(i, 0), 1);
        }
        h.lie(2);
        h.askFor(2, 3);
        h.ask(2, 0);
        for (int w = 1; w <= 3; w++) {
            Check.eq("3 late", h.late(0), w);
        }
        says("3 view 3", h, 0, 3, 0, 63);
        Check.eq("3 not active", h.bring(0, 0), 0);
        h.certify(2, 2, 3, 0, 0);
        Check.eq("3 opens", h.send(2, 1, 0), 1);
        says("3 view 3", h, 0, 3, 1, 64);
        isMessage("3 new", h, 0, 64, 3, 3, 63 * 3, 5, 0);
        for (int i = 0; i < 36; i++) {
            Check.eq("3 again in another view", h.bring(i, 0), 1);
        }
        Check.eq("3 full", h.bring(36, 0), 0);
        Check.eq("3 full", h.state(0, 2), 100);
        Check.eq("3 full", h.state(0, 6), 101);
        h.askFor(2, 4);
        Check.eq("3 full, goes on", h.ask(2, 0), 0);
        Check.eq("3 full, goes on", h.late(0), 4);
        says("3 a change of view without a CHANGE", h, 0, 4, 0, 100);
        Check.eq("3 the row of view 3", h.row(3, 59), 59);
        Check.eq("3 the row of view 3", h.row(3, 60), NONE);
    }

    private static void send() {
        CountedHouse h = new CountedHouse();
        h.request(0, 2, 1, 4);
        h.request(1, 2, 1, 5);
        h.request(1, 1, 1, 6);
        for (int i = 0; i < 3; i++) {
            h.bring(i, 0);
        }
        Check.refuses("4 from", INDEX, () -> h.send(-1, 1, 0));
        Check.refuses("4 from", INDEX, () -> h.send(3, 1, 0));
        Check.refuses("4 to", INDEX, () -> h.send(0, 1, 3));
        Check.refuses("4 to", INDEX, () -> h.send(0, 1, -1));
        Check.refuses("4 message", INDEX, () -> h.send(0, 0, 1));
        Check.refuses("4 message", INDEX, () -> h.send(0, 4, 1));
        Check.refuses("4 message", INDEX, () -> h.send(0, -1, 1));
        Check.refuses("4 same", ARGUMENT, () -> h.send(0, 1, 0));
        Check.refuses("4 same, and no message", INDEX, () -> h.send(0, 4, 0));
        Check.eq("4 ahead of its turn", h.send(0, 3, 1), 0);
        Check.eq("4 nothing READ", h.state(1, 6), 1);
        Check.eq("4 the first", h.send(0, 1, 1), 1);
        Check.eq("4 again", h.send(0, 1, 1), 0);
        Check.eq("4 the gap", h.send(0, 2, 1), 2);
        says("4", h, 1, 0, 1, 3, 3, 0, NONE, 4, 4, 1, 0, 6, 0, 0);
        isMessage("4 commit", h, 1, 1, 1, 0, 1, 0, 0);
        isMessage("4 commit", h, 1, 3, 1, 0, 3, 0, 0);
        // A COMMIT that is READ ahead of its PREPARE counts once the PREPARE comes.
        Check.eq("4 commit first", h.send(1, 1, 2), 1);
        Check.eq("4 not done yet", h.state(2, 3), 0);
        Check.eq("4 then the prepare", h.send(0, 1, 2), 1);
        Check.eq("4 done", h.state(2, 3), 1);
        // The LEADER does in order of its PREPARES, whoever voted.
        Check.eq("4 votes of 2", h.send(2, 1, 0), 1);
        Check.eq("4 leader did one", h.state(0, 3), 1);
        Check.eq("4 out of order", h.send(1, 3, 0), 0);
        Check.eq("4 out of order", h.send(1, 2, 0), 0);
        Check.eq("4 all three", h.send(1, 1, 0), 3);
        Check.eq("4 leader did three", h.state(0, 3), 3);
        h.lie(2);
        Check.eq("4 liar", h.send(0, 2, 2), 0);
        Check.eq("4 liar READS nothing", h.state(2, 6), 2);
    }

    private static void sendWaits() {
        CountedHouse h = new CountedHouse();
        h.request(0, 1, 0, 3);
        openViewOne(h);
        h.bring(0, 1);
        sendRest(h, 1, 2);
        // Of 1: CHANGE, NEW, PREPARE; of 2: CHANGE, COMMIT of the NEW, COMMIT of the PREPARE.
        says("4 view 1", h, 2, 1, 1, 3, 1);
        Check.eq("4 a CHANGE is READ", h.send(2, 1, 0), 1);
        Check.eq("4 a COMMIT of a higher VIEW waits", h.send(2, 2, 0), 0);
        Check.eq("4 and all behind it", h.send(2, 3, 0), 0);
        Check.eq("4 those of another don't", h.send(1, 1, 0), 1);
        Check.eq("4 the PREPARE is out of order", h.send(1, 3, 0), 0);
        Check.eq("4 the NEW frees all four", h.send(1, 2, 0), 4);
        says("4 view 1", h, 0, 1, 1, 2, 1, 0, NONE, 3, 4, 4, 3);
        isMessage("4 commit of the NEW", h, 0, 1, 1, 1, 2, 0, 0);
        isMessage("4 commit of the PREPARE", h, 0, 2, 1, 1, 3, 0, 0);

        // One of its own VIEW waits too, as long as it is not ACTIVE there; a VOID one never does.
        CountedHouse g = new CountedHouse();
        g.request(0, 1, 0, 3);
        g.late(1);
        g.late(2);
        g.ask(1, 2);
        g.ask(2, 1);
        g.late(0);
        g.ask(1, 0);
        says("4 not active", g, 0, 1, 0, 1);
        g.send(2, 1, 1);
        g.send(1, 1, 2);
        g.send(1, 2, 2);
        g.send(2, 1, 0);
        Check.eq("4 commit of its VIEW waits", g.send(2, 2, 0), 0);
        g.lie(2);
        Check.eq("4 certify", g.certify(2, 0, 9, 0, 0), 3);
        Check.eq("4 behind one that waits", g.send(2, 3, 0), 0);
        g.send(1, 1, 0);
        Check.eq("4 all, the VOID one too", g.send(1, 2, 0), 3);
        says("4 active", g, 0, 1, 1, 2, 0, 0, 1, 3, 3, 4);
        g.certify(2, 1, 20, 1, 0);
        Check.eq("4 VOID of a higher VIEW is READ", g.send(2, 4, 0), 1);
    }

    private static void sendOrder() {
        // Servers 0 and 1 go through VIEW 1 to VIEW 2; server 2, which leads that, gets all of it late.
        CountedHouse h = new CountedHouse();
        for (int w = 1; w <= 2; w++) {
            h.late(0);
            h.late(1);
            h.ask(0, 1);
            h.ask(1, 0);
            sendRest(h, 0, 1);
            sendRest(h, 1, 0);
        }
        isMessage("4 the last of 0", h, 0, 3, 2, 2, 0, 0, 0);
        isMessage("4 the last of 1", h, 1, 3, 2, 2, 0, 0, 0);
        Check.eq("4 CHANGE of 0", h.send(0, 1, 2), 1);
        Check.eq("4 COMMIT of 0 waits", h.send(0, 2, 2), 0);
        Check.eq("4 CHANGE of 0 waits behind it", h.send(0, 3, 2), 0);
        Check.eq("4 CHANGE of 1", h.send(1, 1, 2), 1);
        Check.eq("4 ahead of its turn", h.send(1, 3, 2), 0);
        Check.eq("4 the NEW, then from server 0 on again", h.send(1, 2, 2), 4);
        says("4", h, 2, 1, 1, 1, 0, 0, NONE, 4, 4, 2);
        h.ask(0, 2);
        Check.eq("6 it goes to VIEW 2 and opens it", h.ask(1, 2), 1);
        isMessage("6 server 0's CHANGE was READ first", h, 2, 3, 3, 2, 9, 10, 0);
    }

    private static void late() {
        CountedHouse h = new CountedHouse();
        Check.refuses("5 server", INDEX, () -> h.late(-1));
        Check.refuses("5 server", INDEX, () -> h.late(3));
        Check.eq("5 asks", h.late(1), 1);
        Check.eq("5 again the same", h.late(1), 1);
        says("5 alone it stays", h, 1, 0, 1, 0, 0, 0, 1);
        h.lie(2);
        Check.eq("5 liar", h.late(2), NONE);
        Check.eq("5 liar asked for nothing", h.state(2, 5), NONE);
        h.askFor(2, 30);
        Check.eq("5 the lesser of both", h.ask(2, 1), 1);
        says("5", h, 1, 1, 0, 1, 0, 0, 1);
        isMessage("5 change", h, 1, 1, 2, 1, 0, 0, 0);
        for (int w = 2; w <= 30; w++) {
            Check.eq("5 onward", h.late(1), w);
            says("5 onward", h, 1, w, 0, w, 0, 0, w);
        }
        Check.eq("5 view 30", h.late(1), NONE);
        says("5 view 30", h, 1, 30, 0, 30, 0, 0, 30);
        isMessage("5 change", h, 1, 30, 2, 30, 0, 0, 0);
    }

    private static void ask() {
        CountedHouse h = new CountedHouse();
        Check.refuses("6 from", INDEX, () -> h.ask(3, 0));
        Check.refuses("6 from", INDEX, () -> h.ask(-1, 0));
        Check.refuses("6 to", INDEX, () -> h.ask(0, 3));
        Check.refuses("6 to", INDEX, () -> h.ask(0, -1));
        Check.refuses("6 same", ARGUMENT, () -> h.ask(1, 1));
        Check.refuses("6 no such, the same", INDEX, () -> h.ask(3, 3));
        Check.eq("6 nothing asked for", h.ask(0, 1), 0);
        h.late(0);
        h.late(2);
        Check.eq("6 one of three", h.ask(0, 1), 0);
        Check.eq("6 two of three, not its own", h.ask(2, 1), 1);
        says("6 it changed", h, 1, 1, 0, 1, 0, 0, NONE);
        isMessage("6 change", h, 1, 1, 2, 1, 0, 0, 0);
        Check.eq("6 again", h.ask(2, 1), 0);
        Check.eq("6 again", h.state(1, 2), 1);
        h.late(1);
        Check.eq("6 greatest so far", h.ask(1, 0), 1);
        says("6 the lesser of 2 and 1", h, 0, 1, 0, 1, 0, 0, 1);

        // What a liar takes back stays with those that it was brought to.
        CountedHouse g = new CountedHouse();
        g.lie(2);
        g.askFor(2, 9);
        Check.eq("6", g.ask(2, 0), 0);
        g.askFor(2, 0);
        Check.eq("6", g.ask(2, 0), 0);
        Check.eq("6 late", g.late(0), 1);
        says("6 the greatest that was brought", g, 0, 1, 0, 1);
        Check.eq("6 only what is asked for by now", g.ask(2, 1), 0);
        Check.eq("6", g.late(1), 1);
        says("6 view 0 is not above its own", g, 1, 0, 1, 0);
        Check.eq("6 to a liar", g.ask(1, 2), 0);
        says("6 liar", g, 2, 0, 1, 0, 0, 1, 0);
        Check.eq("6 two true ones", g.ask(0, 1), 1);
        g.askFor(2, 5);
        Check.eq("6", g.ask(2, 1), 0);
        Check.eq("6", g.late(1), 2);
        Check.eq("6", g.late(1), 3);
        Check.eq("6 a greater one than both", g.ask(1, 0), 1);
        says("6 the lesser of 9 and 3", g, 0, 3, 0, 2, 0, 0, 1);
    }

    private static void askFreesWhatWaited() {
        CountedHouse h = new CountedHouse();
        openViewOne(h);
        h.send(2, 1, 0);
        Check.eq("6 waits", h.send(2, 2, 0), 0);
        Check.eq("6 waits", h.state(0, 8), 2);
        h.late(1);
        h.late(2);
        Check.eq("6", h.ask(1, 0), 0);
        Check.eq("6 to view 2", h.ask(2, 0), 1);
        says("6 READ by then, as of a lower VIEW", h, 0, 2, 0, 1, 0, 0, NONE, 2, 1, 3);

        // The same by late(): behind what waited stands the NEW of the VIEW that it goes to.
        CountedHouse g = new CountedHouse();
        openViewOne(g);
        g.send(2, 1, 0);
        g.send(2, 2, 0);
        g.late(1);
        g.late(2);
        g.ask(1, 2);
        sendRest(g, 2, 1);
        g.ask(2, 1);
        sendRest(g, 1, 2);
        says("5 server 2 opened view 2", g, 2, 2, 1, 4);
        g.send(2, 3, 0);
        g.send(2, 4, 0);
        says("5 waits", g, 0, 0, 1, 0, 0, 0, NONE, 1, 1, 2);
        g.ask(1, 0);
        Check.eq("5 asks for 1", g.late(0), 1);
        says("5 in VIEW 1 the COMMIT still waits", g, 0, 1, 0, 1, 0, 0, 1, 2, 1, 2);
        Check.eq("5 asks for 2", g.late(0), 2);
        says("5 in VIEW 2 it READS all, the NEW too", g, 0, 2, 1, 3, 0, 0, 2, 4, 1, 5);
        isMessage("5 change", g, 0, 2, 2, 2, 0, 0, 0);
        isMessage("5 commit of the NEW", g, 0, 3, 1, 2, 4, 0, 0);
    }

    private static void reply() {
        CountedHouse h = new CountedHouse();
        Check.refuses("7 request", INDEX, () -> h.reply(0, 0));
        h.request(3, 2, 0, 6);
        Check.refuses("7 request", INDEX, () -> h.reply(0, 1));
        Check.refuses("7 request", INDEX, () -> h.reply(0, -1));
        Check.refuses("7 server", INDEX, () -> h.reply(3, 0));
        Check.refuses("7 server", INDEX, () -> h.reply(-1, 0));
        h.bring(0, 0);
        Check.eq("7 without", h.reply(0, 0), NONE);
        h.send(0, 1, 1);
        Check.eq("7 one", h.reply(1, 0), 0);
        Check.eq("7 the same one twice", h.reply(1, 0), 0);
        h.lie(2);
        h.replyWith(2, 0, 5);
        Check.eq("7 another result", h.reply(2, 0), 0);
        h.replyWith(2, 0, 6);
        Check.eq("7 not brought yet", h.told(0, 2), 0);
        Check.eq("7 two", h.reply(2, 0), 1);
        Check.eq("7 result", h.told(0, 3), 6);
        h.replyWith(2, 0, 7);
        Check.eq("7 it stays so", h.reply(2, 0), 1);
        Check.eq("7 it stays so", h.told(0, 3), 6);
        Check.eq("7 none of this one", h.reply(0, 0), NONE);
        h.send(1, 1, 0);
        Check.eq("7 one more", h.reply(0, 0), 1);

        // The last one that was brought counts, not one ahead of it.
        CountedHouse g = new CountedHouse();
        g.request(0, 2, 0, 6);
        g.lie(2);
        g.replyWith(2, 0, 6);
        g.reply(2, 0);
        g.replyWith(2, 0, 1);
        g.reply(2, 0);
        g.bring(0, 0);
        g.send(0, 1, 1);
        Check.eq("7 the first is gone", g.reply(1, 0), 0);
        g.send(1, 1, 0);
        Check.eq("7 two true ones", g.reply(0, 0), 1);
        Check.eq("7 theirs", g.told(0, 3), 6);
    }

    private static void lie() {
        CountedHouse h = new CountedHouse();
        Check.refuses("8 server", INDEX, () -> h.lie(3));
        Check.refuses("8 server", INDEX, () -> h.lie(-1));
        Check.yes("8 lies", h.lie(1));
        Check.yes("8 lies again", h.lie(1));
        Check.no("8 another did", h.lie(0));
        Check.no("8 another did", h.lie(2));
        Check.eq("8", h.state(0, 4), 0);
        Check.eq("8", h.state(1, 4), 1);
        Check.eq("8", h.state(2, 4), 0);
        h.request(0, 1, 1, 1);
        h.bring(0, 0);
        Check.eq("8 the others go on", h.send(0, 1, 2), 1);
        Check.eq("8 the others go on", h.send(2, 1, 0), 1);
        Check.eq("8 the others go on", h.state(0, 3), 1);
    }

    private static void certifyArguments() {
        CountedHouse h = new CountedHouse();
        Check.refuses("9 server", INDEX, () -> h.certify(3, 0, 0, 0, 0));
        Check.refuses("9 server", INDEX, () -> h.certify(-1, 9, 99, 0, 0));
        Check.refuses("9 true", STATE, () -> h.certify(0, 2, 0, 0, 0));
        Check.refuses("9 true, and wrong", STATE, () -> h.certify(0, 9, 99, 0, 0));
        h.request(0, 0, 0, 0);
        h.lie(1);
        Check.refuses("9 another is true", STATE, () -> h.certify(0, 2, 0, 0, 0));
        int[][] wrong = {{-1, 0, 0, 0}, {4, 0, 0, 0}, {0, -1, 0, 0}, {0, 31, 0, 0}, {0, 0, -1, 0}, {0, 0, 1, 0},
            {0, 0, 0, 1}, {0, 0, 0, -1}, {1, 0, -1, 0}, {1, 0, 201, 0}, {1, 0, 1, 1}, {2, 31, 0, 0}, {2, -1, 0, 0},
            {2, 1, 1, 0}, {2, 1, 0, 1}, {3, 1, -1, 0}, {3, 1, 601, 0}, {3, 1, 0, -1}, {3, 1, 0, 601}, {3, 31, 0, 0}};
        for (int[] w : wrong) {
            Check.refuses("9 kind " + w[0] + ", view " + w[1] + ", a " + w[2] + ", b " + w[3], ARGUMENT,
                    () -> h.certify(1, w[0], w[1], w[2], w[3]));
        }
        Check.eq("9 nothing certified", h.state(1, 2), 0);
        int[][] right = {{0, 0, 0, 0}, {0, 30, 0, 0}, {1, 0, 0, 0}, {1, 30, 200, 0}, {3, 0, 0, 0}, {3, 30, 600, 600},
            {2, 0, 0, 0}, {2, 30, 0, 0}};
        for (int i = 0; i < right.length; i++) {
            int[] r = right[i];
            Check.eq("9 number", h.certify(1, r[0], r[1], r[2], r[3]), i + 1);
            isMessage("9", h, 1, i + 1, r[0], r[1], r[2], r[3], r[0] == 2 ? 0 : 1);
        }
    }

    private static void certifyVoidPrepares() {
        CountedHouse h = new CountedHouse();
        h.request(0, 0, 0, 0);
        h.lie(1);
        h.certify(1, 0, 0, 0, 0);
        Check.eq("9 PREPARE: no leader", h.message(1, 1, 4), 1);
        h.certify(1, 0, 1, 0, 0);
        Check.eq("9 PREPARE: no opening", h.message(1, 2, 4), 1);
        h.certify(1, 2, 1, 0, 0);
        h.late(0);
        h.late(2);
        h.ask(0, 2);
        h.certify(1, 3, 1, 3 * 3 + 1, 1 * 3 + 2);
        isMessage("9 NEW", h, 1, 4, 3, 1, 10, 5, 0);
        h.certify(1, 0, 1, 0, 0);
        Check.eq("9 PREPARE behind the opening", h.message(1, 5, 4), 0);
        h.certify(1, 0, 1, 0, 0);
        Check.eq("9 PREPARE of the same REQUEST again", h.message(1, 6, 4), 0);
        h.certify(1, 0, 2, 0, 0);
        Check.eq("9 PREPARE of another's view", h.message(1, 7, 4), 1);
        h.certify(1, 2, 1, 0, 0);
        h.certify(1, 0, 1, 0, 0);
        Check.eq("9 PREPARE behind a CHANGE to no higher VIEW", h.message(1, 9, 4), 0);
        h.certify(1, 2, 2, 0, 0);
        h.certify(1, 0, 1, 0, 0);
        Check.eq("9 PREPARE behind a CHANGE to a higher VIEW", h.message(1, 11, 4), 1);
        Check.eq("9 it stays VOID", h.message(1, 2, 4), 1);
        Check.eq("9 it stays not VOID", h.message(1, 9, 4), 0);
        // The same PREPARE twice: the REQUEST comes into the HISTORY twice, with effect once.
        sendRest(h, 2, 0);
        h.ask(2, 0);
        for (int k = 1; k <= 11; k++) {
            Check.eq("9 READ", h.send(1, k, 0), 1);
        }
        says("9 done thrice", h, 0, 1, 1, 5, 3);
    }

    private static void certifyVoidCommits() {
        CountedHouse h = new CountedHouse();
        h.request(0, 1, 0, 4);
        h.lie(2);
        h.certify(2, 1, 0, 1, 0);
        Check.eq("9 COMMIT: nothing there yet", h.message(2, 1, 4), 1);
        h.bring(0, 0);
        Check.eq("9 COMMIT: it stays VOID", h.message(2, 1, 4), 1);
        h.certify(2, 1, 0, 1, 0);
        Check.eq("9 COMMIT of a PREPARE", h.message(2, 2, 4), 0);
        h.certify(2, 1, 3, 1, 0);
        Check.eq("9 COMMIT: its PREPARE is of another VIEW", h.message(2, 3, 4), 1);
        h.certify(2, 1, 2, 1, 0);
        Check.eq("9 COMMIT of the LEADER", h.message(2, 4, 4), 1);
        h.certify(2, 1, 0, 0, 0);
        Check.eq("9 COMMIT: no such number", h.message(2, 5, 4), 1);
        h.late(0);
        h.late(1);
        h.ask(0, 1);
        h.ask(1, 0);
        h.certify(2, 1, 1, 1, 0);
        Check.eq("9 COMMIT of a CHANGE", h.message(2, 6, 4), 1);
        h.certify(2, 1, 1, 2, 0);
        Check.eq("9 COMMIT of what comes later", h.message(2, 7, 4), 1);
        h.send(0, 1, 1);
        h.send(0, 2, 1);
        isMessage("9 the opening", h, 1, 2, 3, 1, 4, 6, 0);
        h.certify(2, 1, 1, 2, 0);
        Check.eq("9 COMMIT of the OPENING", h.message(2, 8, 4), 0);
        h.certify(2, 2, 1, 0, 0);
        h.certify(2, 1, 1, 2, 0);
        Check.eq("9 COMMIT behind a CHANGE to its VIEW", h.message(2, 10, 4), 0);
        h.certify(2, 1, 0, 1, 0);
        Check.eq("9 COMMIT behind a CHANGE to a higher VIEW", h.message(2, 11, 4), 1);
        // A VOID vote is none: server 0 did not do its REQUEST in VIEW 0 by message 1, but by 2.
        CountedHouse g = new CountedHouse();
        g.request(0, 1, 0, 4);
        g.lie(2);
        g.certify(2, 1, 0, 1, 0);
        g.bring(0, 0);
        g.certify(2, 1, 0, 1, 0);
        Check.eq("9 READ", g.send(2, 1, 0), 1);
        Check.eq("9 no vote", g.state(0, 3), 0);
        Check.eq("9 READ", g.send(2, 2, 0), 1);
        Check.eq("9 a vote", g.state(0, 3), 1);
        // A COMMIT of a VOID PREPARE is VOID.
        CountedHouse f = new CountedHouse();
        f.request(0, 1, 0, 4);
        f.lie(0);
        f.certify(0, 2, 2, 0, 0);
        f.certify(0, 0, 0, 0, 0);
        f.send(0, 1, 1);
        Check.eq("9 VOID PREPARE is READ", f.send(0, 2, 1), 1);
        Check.eq("9 and not committed", f.state(1, 2), 0);
        Check.eq("9 nor done", f.state(1, 3), 0);
    }

    private static void certifyVoidNews() {
        CountedHouse h = new CountedHouse();
        h.lie(1);
        h.late(0);
        h.late(2);
        h.ask(0, 2);
        h.ask(2, 0);
        h.certify(1, 2, 1, 0, 0);
        h.certify(1, 2, 1, 0, 0);
        h.certify(1, 2, 0, 0, 0);
        int of0 = 3;
        int of1 = 4;
        int of2 = 5;
        int[][] voids = {{1, of0, of0}, {1, of1, 7}, {1, of0, 0}, {1, of0, 8}, {1, 10, of0}, {0, of0, of2},
            {2, of0, of2}, {4, of0, of2}, {1, of0, 16}, {1, 600, of0}};
        int k = 3;
        for (int[] v : voids) {
            k++;
            Check.eq("9 NEW", h.certify(1, 3, v[0], v[1], v[2]), k);
            Check.eq("9 VOID NEW of " + v[0] + ": " + v[1] + ", " + v[2], h.message(1, k, 4), 1);
            Check.eq("9 no opening", h.row(1, 0), NONE);
        }
        // Its own CHANGE behind it does not count.
        h.certify(1, 3, 1, (k + 2) * 3 + 1, of0);
        h.certify(1, 2, 1, 0, 0);
        Check.eq("9 NEW of a CHANGE that comes later", h.message(1, k + 1, 4), 1);
        h.certify(1, 3, 1, of2, of0);
        Check.eq("9 NEW", h.message(1, k + 3, 4), 0);
        h.certify(1, 3, 1, of0, of1);
        Check.eq("9 a second NEW is not VOID", h.message(1, k + 4, 4), 0);
        // Only the OPENING can be committed.
        h.request(0, 0, 0, 0);
        for (int i = 1; i <= k + 4; i++) {
            h.send(1, i, 0);
        }
        says("9 opened once", h, 0, 1, 1, 2, 0, 0, 1, 3, k + 5, 1);
        isMessage("9 commit of the opening", h, 0, 2, 1, 1, k + 3, 0, 0);
        h.certify(1, 2, 2, 0, 0);
        h.certify(1, 3, 1, of0, of2);
        Check.eq("9 NEW behind a CHANGE to a higher VIEW", h.message(1, k + 6, 4), 1);

        // A second NEW that is not VOID is no OPENING: a COMMIT of it is VOID.
        CountedHouse g = new CountedHouse();
        g.late(0);
        g.late(1);
        g.ask(0, 1);
        g.ask(1, 0);
        g.send(0, 1, 1);
        g.lie(1);
        g.certify(1, 3, 1, of1, of0);
        Check.eq("9 second NEW", g.message(1, 3, 4), 0);
        CountedHouse f = new CountedHouse();
        f.lie(2);
        f.late(0);
        f.late(1);
        f.ask(0, 1);
        f.ask(1, 0);
        f.send(0, 1, 1);
        f.certify(2, 1, 1, 2, 0);
        Check.eq("9 COMMIT of the opening", f.message(2, 1, 4), 0);
        f.certify(2, 3, 1, of0, of1);
        Check.eq("9 NEW of no leader", f.message(2, 2, 4), 1);
    }

    private static void certifyFull() {
        CountedHouse h = new CountedHouse();
        h.lie(2);
        for (int i = 1; i <= 100; i++) {
            Check.eq("9 number", h.certify(2, 2, 5, 0, 0), i);
        }
        Check.eq("9 no more", h.certify(2, 2, 5, 0, 0), NONE);
        Check.eq("9 no more", h.certify(2, 3, 5, 600, 600), NONE);
        Check.eq("9 no more", h.state(2, 2), 100);
        Check.refuses("9 no more, and wrong", ARGUMENT, () -> h.certify(2, 2, 31, 0, 0));
        Check.refuses("9 no more", INDEX, () -> h.message(2, 101, 0));
        isMessage("9 the last", h, 2, 100, 2, 5, 0, 0, 0);
        for (int i = 100; i >= 2; i--) {
            Check.eq("9 ahead of their turn", h.send(2, i, 0), 0);
        }
        Check.eq("9 all hundred", h.send(2, 1, 0), 100);
        Check.eq("9 next", h.state(0, 8), 101);
        Check.eq("9 nothing more to READ", h.send(2, 100, 0), 0);
    }

    private static void askFor() {
        CountedHouse h = new CountedHouse();
        Check.refuses("10 server", INDEX, () -> h.askFor(3, 0));
        Check.refuses("10 server", INDEX, () -> h.askFor(-1, 0));
        Check.refuses("10 true", STATE, () -> h.askFor(1, 0));
        Check.refuses("10 true, and wrong", STATE, () -> h.askFor(1, 31));
        h.late(1);
        h.lie(1);
        Check.eq("10 what it asked for ahead", h.state(1, 5), 1);
        Check.refuses("10 view", ARGUMENT, () -> h.askFor(1, 31));
        Check.refuses("10 view", ARGUMENT, () -> h.askFor(1, -1));
        h.askFor(1, 30);
        Check.eq("10 greater", h.state(1, 5), 30);
        h.askFor(1, 2);
        Check.eq("10 less", h.state(1, 5), 2);
        h.askFor(1, 0);
        Check.eq("10 nought", h.state(1, 5), 0);
        h.askFor(1, 7);
        Check.eq("10 it changes nothing of its own", h.state(1, 0), 0);
        Check.eq("10 brought", h.ask(1, 0), 0);
        Check.eq("10 late", h.late(0), 1);
        Check.eq("10 the other one is the lesser", h.state(0, 0), 1);
        Check.eq("10 brought", h.ask(1, 2), 0);
        Check.eq("10 to the lesser", h.ask(0, 2), 1);
        Check.eq("10 to the lesser", h.state(2, 0), 1);
    }

    private static void replyWith() {
        CountedHouse h = new CountedHouse();
        h.request(0, 1, 0, 4);
        Check.refuses("11 server", INDEX, () -> h.replyWith(3, 0, 0));
        Check.refuses("11 request", INDEX, () -> h.replyWith(0, 1, 0));
        Check.refuses("11 request", INDEX, () -> h.replyWith(0, -1, 0));
        Check.refuses("11 true", STATE, () -> h.replyWith(0, 0, 0));
        h.bring(0, 0);
        h.send(0, 1, 1);
        h.lie(1);
        Check.eq("11 what it replied ahead stays", h.reply(1, 0), 0);
        h.replyWith(1, 0, Integer.MIN_VALUE);
        Check.eq("11 in its place", h.result(1, 0), Integer.MIN_VALUE);
        Check.refuses("11 request, of a liar", INDEX, () -> h.replyWith(1, 1, 0));
        h.request(1, 0, 0, 0);
        h.replyWith(1, 1, 77);
        Check.eq("11 of one that was never done", h.result(1, 1), 77);
        Check.eq("11 it is brought", h.reply(1, 1), 0);
        Check.eq("11 the map is as it was", h.state(1, 9), 4);
    }

    private static void state() {
        CountedHouse h = new CountedHouse();
        Check.refuses("12 server", INDEX, () -> h.state(3, 0));
        Check.refuses("12 server", INDEX, () -> h.state(-1, 0));
        Check.refuses("12 server and what", INDEX, () -> h.state(-1, 13));
        Check.refuses("12 what", ARGUMENT, () -> h.state(0, 13));
        Check.refuses("12 what", ARGUMENT, () -> h.state(0, -1));
        for (int key = 0; key < 4; key++) {
            h.request(key, 1, key, 10 + key);
            h.bring(key, 0);
            h.send(0, key + 1, 2);
        }
        says("12", h, 2, 0, 1, 4, 4, 0, NONE, 5, 1, 5, 10, 11, 12, 13);
        says("12", h, 0, 0, 1, 4, 0, 0, NONE, 5, 1, 1, 0, 0, 0, 0);
    }

    private static void stateOfLiar() {
        CountedHouse h = new CountedHouse();
        h.request(0, 1, 0, 4);
        h.request(0, 1, 0, 5);
        h.bring(0, 0);
        h.bring(1, 0);
        h.send(0, 1, 1);
        h.late(0);
        h.ask(0, 1);
        h.lie(1);
        h.send(0, 2, 1);
        h.late(2);
        h.ask(2, 1);
        h.certify(1, 1, 0, 2, 0);
        h.askFor(1, 3);
        says("12 liar", h, 1, 0, 1, 2, 1, 1, 3, 2, 2, 1, 4, 0, 0, 0);
        h.send(1, 1, 0);
        h.send(1, 2, 0);
        says("12 its votes count", h, 0, 0, 1, 2, 2, 0, 1, 3, 3, 1, 5);
    }

    private static void history() {
        CountedHouse h = new CountedHouse();
        Check.refuses("13 server", INDEX, () -> h.history(3, 0));
        Check.refuses("13 server", INDEX, () -> h.history(-1, 0));
        for (int i = 0; i < 3; i++) {
            h.request(i, 0, 0, 0);
        }
        h.bring(2, 0);
        h.bring(0, 0);
        h.bring(1, 0);
        sendRest(h, 0, 1);
        Check.eq("13", h.history(1, 0), 2);
        Check.eq("13", h.history(1, 1), 0);
        Check.eq("13", h.history(1, 2), 1);
        Check.eq("13 behind", h.history(1, 3), NONE);
        Check.eq("13 ahead", h.history(1, -1), NONE);
        Check.eq("13 far", h.history(1, Integer.MAX_VALUE), NONE);
        Check.eq("13 far", h.history(1, Integer.MIN_VALUE), NONE);
        Check.eq("13 the leader has none yet", h.history(0, 0), NONE);
    }

    private static void message() {
        CountedHouse h = new CountedHouse();
        openViewOne(h);
        isMessage("14 CHANGE", h, 1, 1, 2, 1, 0, 0, 0);
        isMessage("14 NEW", h, 1, 2, 3, 1, 4, 5, 0);
        isMessage("14 COMMIT", h, 2, 2, 1, 1, 2, 0, 0);
        h.request(0, 0, 0, 0);
        h.request(0, 0, 0, 0);
        h.bring(1, 1);
        isMessage("14 PREPARE", h, 1, 3, 0, 1, 1, 0, 0);
        Check.refuses("14 server", INDEX, () -> h.message(3, 1, 0));
        Check.refuses("14 server", INDEX, () -> h.message(-1, 1, 0));
        Check.refuses("14 number", INDEX, () -> h.message(1, 0, 0));
        Check.refuses("14 number", INDEX, () -> h.message(1, 4, 0));
        Check.refuses("14 number", INDEX, () -> h.message(0, 1, 0));
        Check.refuses("14 number and what", INDEX, () -> h.message(1, 4, 9));
        Check.refuses("14 what", ARGUMENT, () -> h.message(1, 1, 5));
        Check.refuses("14 what", ARGUMENT, () -> h.message(1, 1, -1));
    }

    private static void newTellsFirstTwoChanges() {
        // Server 1 READ two CHANGES of the liar to VIEW 1 while it was in VIEW 0: the first one counts.
        CountedHouse h = new CountedHouse();
        h.lie(2);
        h.certify(2, 2, 1, 0, 0);
        h.certify(2, 2, 1, 0, 0);
        h.send(2, 1, 1);
        Check.eq("4 a CHANGE to a higher VIEW is READ", h.send(2, 2, 1), 1);
        says("4 and does nothing", h, 1, 0, 1, 0);
        h.askFor(2, 1);
        h.ask(2, 1);
        h.late(1);
        says("4 its own is the second SERVER's", h, 1, 1, 1, 2);
        isMessage("4 in the order in which it READ them", h, 1, 2, 3, 1, 5, 4, 0);
    }

    private static void newWithThreeChanges() {
        CountedHouse h = new CountedHouse();
        h.late(0);
        h.late(2);
        h.ask(0, 2);
        h.ask(2, 0);
        h.send(2, 1, 1);
        h.send(0, 1, 1);
        Check.eq("4 still in VIEW 0", h.state(1, 0), 0);
        h.ask(0, 1);
        Check.eq("6 it goes to VIEW 1", h.ask(2, 1), 1);
        says("6 and opens it at once", h, 1, 1, 1, 2);
        isMessage("6 with the first two", h, 1, 2, 3, 1, 5, 3, 0);
    }

    private static void row() {
        CountedHouse h = new CountedHouse();
        Check.refuses("15 view", ARGUMENT, () -> h.row(-1, 0));
        Check.refuses("15 view", ARGUMENT, () -> h.row(31, 0));
        Check.eq("15 view 30", h.row(30, 0), NONE);
        // The liar committed the second PREPARE alone: the first is not in the ROW.
        h.request(0, 1, 0, 5);
        h.request(1, 1, 0, 6);
        h.bring(0, 0);
        h.bring(1, 0);
        h.lie(2);
        h.certify(2, 1, 0, 2, 0);
        h.certify(2, 2, 1, 0, 0);
        h.certify(2, 1, 0, 1, 0);
        h.askFor(2, 1);
        h.ask(2, 1);
        h.late(1);
        Check.eq("15 no opening yet", h.row(1, 0), NONE);
        h.send(2, 1, 1);
        h.send(2, 2, 1);
        Check.eq("15 opened", h.state(1, 1), 1);
        Check.eq("15 the second alone", h.row(1, 0), 1);
        Check.eq("15 no more", h.row(1, 1), NONE);
        Check.eq("15 ahead", h.row(1, -1), NONE);
        Check.eq("15 far", h.row(1, Integer.MAX_VALUE), NONE);
        Check.eq("15 others", h.row(4, 0), NONE);
        Check.eq("15 view 0", h.row(0, 0), NONE);

        // Two that committed different PREPARES: both, in order of their numbers, each once.
        CountedHouse g = new CountedHouse();
        for (int i = 0; i < 4; i++) {
            g.request(i, 1, 0, i);
        }
        g.bring(3, 0);
        g.bring(1, 0);
        g.bring(0, 0);
        g.send(0, 1, 1);
        g.send(0, 2, 1);
        g.lie(2);
        g.certify(2, 1, 0, 3, 0);
        g.certify(2, 1, 0, 2, 0);
        g.certify(2, 2, 1, 0, 0);
        g.askFor(2, 1);
        g.ask(2, 1);
        g.late(1);
        sendRest(g, 2, 1);
        Check.eq("15", g.row(1, 0), 3);
        Check.eq("15", g.row(1, 1), 1);
        Check.eq("15", g.row(1, 2), 0);
        Check.eq("15", g.row(1, 3), NONE);

        // The LEADER's own PREPARES, committed by nobody.
        CountedHouse f = new CountedHouse();
        f.request(0, 1, 0, 5);
        f.bring(0, 0);
        f.late(0);
        f.late(1);
        f.ask(0, 1);
        f.ask(1, 0);
        f.send(0, 1, 1);
        f.send(0, 2, 1);
        Check.eq("15 of the leader", f.row(1, 0), 0);
        Check.eq("15 of the leader", f.row(1, 1), NONE);
        sendRest(f, 1, 2);
        says("15 done by the follower", f, 2, 1, 1, 1, 1, 0, NONE, 1, 3, 2, 5);
        says("15 not yet by the leader", f, 1, 1, 1, 2, 0);
        f.send(2, 1, 1);
        says("15 by now", f, 1, 1, 1, 2, 1, 0, 1, 3, 3, 2, 5);
    }

    private static void rowOverViews() {
        CountedHouse h = new CountedHouse();
        h.request(0, 2, 0, 5);
        h.request(1, 2, 0, 6);
        h.request(2, 2, 0, 7);
        h.bring(0, 0);
        h.send(0, 1, 1);
        openViewOne(h);
        Check.eq("15 view 1", h.row(1, 0), 0);
        h.bring(1, 1);
        h.bring(2, 1);
        sendRest(h, 1, 2);
        says("15 view 1", h, 2, 1, 1, 4, 3);
        // To VIEW 2, which server 2 opens with what server 0 (still in VIEW 0) and itself have.
        h.late(2);
        h.late(1);
        h.ask(1, 2);
        h.ask(1, 0);
        Check.eq("15", h.ask(2, 0), 1);
        h.send(0, 1, 2);
        Check.eq("15 opened", h.send(0, 2, 2), 1);
        says("15 view 2", h, 2, 2, 1, 6, 3);
        Check.eq("15 row of 2", h.row(2, 0), 0);
        Check.eq("15 row of 2", h.row(2, 1), 1);
        Check.eq("15 row of 2", h.row(2, 2), 2);
        Check.eq("15 row of 2", h.row(2, 3), NONE);
        Check.eq("15 row of 1 stays", h.row(1, 1), NONE);
        Check.eq("15 server 0 has done nothing", h.state(0, 3), 0);
        for (int k = 1; k <= 6; k++) {
            h.send(2, k, 0);
        }
        says("15 it does the ROW", h, 0, 2, 1, 3, 3, 0, NONE, 4, 1, 7, 18);
        Check.eq("15 history", h.history(0, 2), 2);
        // Server 2 did all three ahead: the ROW adds nothing to its HISTORY.
        h.send(0, 3, 2);
        says("15 nothing twice", h, 2, 2, 1, 6, 3, 0, 2, 4, 6, 7, 18);
        h.bring(0, 2);
        h.send(2, 7, 0);
        says("15 done again without effect", h, 0, 2, 1, 4, 4, 0, NONE, 5, 1, 8, 18);
        Check.eq("15 history", h.history(0, 3), 0);
        Check.eq("15 the reply is the one with effect", h.result(0, 0), 5);
    }

    private static void rowOfOpeningAlone() {
        // Server 1's OPENING of VIEW 1 makes 1 the VIEW that VIEW 2 builds on, though its LEADER prepared
        // nothing there: so server 0's second PREPARE of VIEW 0, which that OPENING left out, stays out.
        CountedHouse h = new CountedHouse();
        h.request(0, 1, 0, 5);
        h.request(1, 1, 0, 6);
        h.bring(0, 0);
        h.bring(1, 0);
        h.send(0, 1, 1);
        h.late(1);
        h.late(2);
        h.ask(1, 2);
        h.ask(2, 1);
        h.send(2, 1, 1);
        Check.eq("15 row of 1", h.row(1, 0), 0);
        Check.eq("15 row of 1", h.row(1, 1), NONE);
        h.late(1);
        h.late(2);
        h.ask(1, 0);
        Check.eq("15 server 0 to view 2", h.ask(2, 0), 1);
        Check.eq("15 server 1 to view 2", h.ask(2, 1), 1);
        sendRest(h, 0, 2);
        sendRest(h, 1, 2);
        says("15 server 2 came to view 1 by the way", h, 2, 1, 1, 2, 1);
        Check.eq("15 server 2 to view 2", h.ask(1, 2), 1);
        says("15 view 2", h, 2, 2, 1, 4, 1);
        isMessage("15 of servers 0 and 1", h, 2, 4, 3, 2, 9, 13, 0);
        Check.eq("15 row of 2", h.row(2, 0), 0);
        Check.eq("15 row of 2", h.row(2, 1), NONE);
    }

    private static void told() {
        CountedHouse h = new CountedHouse();
        h.request(3, 1, 0, 5);
        h.request(3, 0, 0, 0);
        Check.refuses("16 request", INDEX, () -> h.told(2, 0));
        Check.refuses("16 request", INDEX, () -> h.told(-1, 0));
        Check.refuses("16 request and what", INDEX, () -> h.told(2, 4));
        Check.refuses("16 what", ARGUMENT, () -> h.told(0, 4));
        Check.refuses("16 what", ARGUMENT, () -> h.told(0, -1));
        Check.eq("16 client", h.told(1, 0), 3);
        Check.eq("16 own number", h.told(1, 1), 2);
        Check.eq("16 answered", h.told(1, 2), 0);
        Check.eq("16 result", h.told(1, 3), 0);
        h.bring(0, 0);
        h.bring(1, 0);
        sendRest(h, 0, 1);
        sendRest(h, 1, 0);
        h.reply(0, 1);
        Check.eq("16 one is not enough", h.told(1, 2), 0);
        Check.eq("16 one is not enough", h.told(1, 3), 0);
        h.reply(1, 1);
        Check.eq("16 answered", h.told(1, 2), 1);
        Check.eq("16 result", h.told(1, 3), 5);
        Check.eq("16 the other one is not", h.told(0, 2), 0);
    }

    private static void result() {
        CountedHouse h = new CountedHouse();
        Check.refuses("17 request", INDEX, () -> h.result(0, 0));
        h.request(0, 1, 0, 5);
        h.request(1, 0, 0, 0);
        Check.refuses("17 server", INDEX, () -> h.result(3, 0));
        Check.refuses("17 server", INDEX, () -> h.result(-1, 0));
        Check.refuses("17 request", INDEX, () -> h.result(0, 2));
        Check.refuses("17 request", INDEX, () -> h.result(0, -1));
        h.bring(0, 0);
        h.bring(1, 0);
        Check.eq("17 without", h.result(1, 1), 0);
        sendRest(h, 0, 1);
        Check.eq("17 PUT: what it had", h.result(1, 0), 0);
        Check.eq("17 READ: what it has", h.result(1, 1), 5);
        Check.eq("17 the leader has none yet", h.result(0, 1), 0);
    }

    private static void effects() {
        CountedHouse h = new CountedHouse();
        h.request(0, 2, 3, Integer.MAX_VALUE);
        h.request(1, 2, 3, 2);
        h.request(0, 1, 3, 9);
        h.request(1, 0, 3, 77);
        h.request(1, 0, 2, 77);
        h.request(2, 1, 2, -4);
        // The client's third (4) is done ahead of its second (3), which has no effect then.
        int[] order = {0, 1, 2, 4, 3, 5};
        for (int r : order) {
            h.bring(r, 0);
        }
        sendRest(h, 0, 2);
        Check.eq("17 ADD", h.result(2, 0), Integer.MAX_VALUE);
        Check.eq("17 ADD goes round", h.result(2, 1), Integer.MIN_VALUE + 1);
        Check.eq("17 PUT", h.result(2, 2), Integer.MIN_VALUE + 1);
        Check.eq("17 READ", h.result(2, 4), 0);
        Check.eq("7 no reply without effect", h.reply(2, 3), NONE);
        Check.eq("17 no reply without effect", h.result(2, 3), 0);
        Check.eq("17 a client of its own", h.result(2, 5), 0);
        Check.eq("13 yet it is in the history", h.history(2, 4), 3);
        says("12 map", h, 2, 0, 1, 6, 6, 0, NONE, 7, 1, 7, 0, 0, -4, 9);
    }

    private static void openingNeedsTwoVotes() {
        CountedHouse h = new CountedHouse();
        h.request(0, 1, 0, 5);
        h.late(1);
        h.late(2);
        h.ask(1, 2);
        h.ask(2, 1);
        h.send(2, 1, 1);
        Check.eq("4 opened", h.state(1, 1), 1);
        Check.eq("3 it prepares at once", h.bring(0, 1), 1);
        h.lie(2);
        // The liar votes for the PREPARE alone: nothing is done ahead of the OPENING.
        h.certify(2, 1, 1, 3, 0);
        Check.eq("9", h.message(2, 2, 4), 0);
        Check.eq("4", h.send(2, 2, 1), 1);
        Check.eq("4 the opening has one vote", h.state(1, 3), 0);
        h.certify(2, 1, 1, 2, 0);
        Check.eq("4", h.send(2, 3, 1), 1);
        Check.eq("4 both are done", h.state(1, 3), 1);
        // A follower's own COMMIT of the OPENING is the second vote.
        h.send(1, 1, 0);
        Check.eq("4", h.send(1, 2, 0), 1);
        Check.eq("4", h.send(1, 3, 0), 1);
        says("4", h, 0, 1, 1, 2, 1, 0, NONE, 3, 4, 1, 5);
    }

    private static void longestHistory() {
        // A liar that leads VIEW 0 prepares a hundred times: a follower commits and does them all.
        CountedHouse h = new CountedHouse();
        h.request(0, 2, 0, 1);
        h.lie(0);
        for (int i = 1; i <= 100; i++) {
            h.certify(0, 0, 0, 0, 0);
            Check.eq("4 READ", h.send(0, i, 1), 1);
        }
        says("4 a hundred", h, 1, 0, 1, 100, 100, 0, NONE, 101, 101, 1, 1);
        Check.eq("13 the last", h.history(1, 99), 0);
        Check.eq("13 no more", h.history(1, 100), NONE);
        // It can't certify a CHANGE any more, yet it goes to another VIEW.
        h.late(2);
        h.askFor(0, 1);
        h.ask(0, 1);
        Check.eq("6 it goes", h.ask(2, 1), 1);
        says("6 without a CHANGE", h, 1, 1, 0, 100, 100);
        h.ask(0, 2);
        says("6 the other one", h, 2, 1, 0, 1);
        Check.eq("4 no NEW of one alone", h.send(2, 1, 1), 1);
        says("4 not active", h, 1, 1, 0, 100);
    }
}
