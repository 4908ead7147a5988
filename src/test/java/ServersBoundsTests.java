/** Part 3 of the document (what SERVERS and CLIENTS do): each sentence that names a bound, with its test. */
public final class ServersBoundsTests extends HouseSteps {

    public static void main(String[] args) {
        atFirst();
        reading();
        changes();
        news();
        doing();
        brought();
        lying();
        clients();
        Check.end("ServersBoundsTests");
    }

    private static void atFirst() {
        Check.sentence("has a VIEW (0 at first), is ACTIVE in it or not (it is, at first)",
                ServersBoundsTests::activeAtFirst);
        Check.sentence("which is the next it READS (1 at first; its own it READS at once as it certifies them)",
                ServersBoundsTests::readsNext);
        Check.sentence("the greatest VIEW that each asked for (of others: that it was brought)",
                ServersBoundsTests::greatestBrought);
    }

    private static void reading() {
        Check.sentence("in order of their numbers, none left out, each one once it was brought",
                ServersBoundsTests::noneLeftOut);
        Check.sentence("those of several in order of SERVERS, from 0 on, as long as there is one (after each from "
                + "SERVER 0 on again)", ServersBoundsTests::fromServerNoughtOnAgain);
        Check.sentence("A PREPARE or COMMIT of a VIEW above its own, or of its own while it is not ACTIVE, WAITS "
                + "(and all behind it of this SERVER)", ServersBoundsTests::higherViewWaits);
        Check.sentence("or of its own while it is not ACTIVE, WAITS", ServersBoundsTests::ownViewWaits);
        Check.sentence("unless it is VOID: VOID ones are READ and do nothing", ServersBoundsTests::voidNeverWaits);
        Check.sentence("so are those of a lower VIEW", ServersBoundsTests::lowerViewDoesNothing);
        Check.sentence("as long as there is one", ServersBoundsTests::hundredAndItsOwn);
        Check.sentence("another SERVER than the LEADER certifies a COMMIT of it",
                ServersBoundsTests::leaderCommitsNothing);
        Check.sentence("COMMIT of its VIEW: its MESSAGE has this SERVER's vote.",
                ServersBoundsTests::votesOfAnotherView);
    }

    private static void changes() {
        Check.sentence("CHANGE: if it is to its own VIEW", ServersBoundsTests::changeToAnotherView);
        Check.sentence("which is not ACTIVE", ServersBoundsTests::changeOfActiveView);
        Check.sentence("and this SERVER is its LEADER", ServersBoundsTests::changeOfNoLeader);
        Check.sentence("has READ CHANGES to it of two SERVERS", ServersBoundsTests::changesOfOneServer);
        Check.sentence("it certifies a NEW of these two (in the order in which it READ them)",
                ServersBoundsTests::firstTwoChanges);
    }

    private static void news() {
        Check.sentence("NEW (not VOID) of a VIEW above its own", ServersBoundsTests::newOfHigherView);
        Check.sentence("NEW (not VOID) of a VIEW above its own", ServersBoundsTests::newThatIsVoid);
        Check.sentence("or of its own while it is not ACTIVE: its VIEW is that, ACTIVE",
                ServersBoundsTests::newOfOwnView);
        Check.sentence("there are no PREPARES of it yet", ServersBoundsTests::preparesOfAnotherViewAreGone);
        Check.sentence("there are no PREPARES of it yet", ServersBoundsTests::preparesBeginAnew);
        Check.sentence("Other MESSAGES do nothing.", ServersBoundsTests::newOfLowerView);
        Check.sentence("Other MESSAGES do nothing.", ServersBoundsTests::newOfActiveView);
    }

    private static void doing() {
        Check.sentence("when that has two votes (the LEADER's own, another one's)",
                ServersBoundsTests::openingOfOneVote);
        Check.sentence("the REQUESTS of the ROW that are behind as many as its HISTORY has are done",
                ServersBoundsTests::restOfRow);
        Check.sentence("the REQUESTS of the ROW that are behind as many as its HISTORY has are done",
                ServersBoundsTests::rowAsLongAsHistory);
        Check.sentence("behind an OPENING that was done, PREPARE by PREPARE in order",
                ServersBoundsTests::prepareBehindOpening);
        Check.sentence("as long as the next one has two votes", ServersBoundsTests::nextWithoutVote);
        Check.sentence("as long as the next one has two votes", ServersBoundsTests::sixtyAtOnce);
        Check.sentence("if its number is above that of the last one of this CLIENT that was done with effect",
                ServersBoundsTests::numberNotAbove);
        Check.sentence("else there is no effect", ServersBoundsTests::noEffect);
    }

    private static void brought() {
        Check.sentence("when it is ACTIVE and its VIEW's LEADER", ServersBoundsTests::bringToOthers);
        Check.sentence("and it certified no PREPARE of it in this VIEW", ServersBoundsTests::bringAgain);
        Check.sentence("LATE: it asks for the VIEW behind its own (31: nothing).", ServersBoundsTests::lateAtTheEnd);
        Check.sentence("the greatest VIEW that this SERVER asked for by then", ServersBoundsTests::askedByThen);
        Check.sentence("when two of the three (its own too) asked for VIEWS above its own",
                ServersBoundsTests::askedForItsOwnView);
        Check.sentence("its VIEW is the lesser of the two greatest asked for, not ACTIVE, and it certifies a CHANGE "
                + "to it", ServersBoundsTests::lesserOfTwo);
    }

    private static void lying() {
        Check.sentence("A SERVER that has LIED does nothing by itself any more", ServersBoundsTests::liarDoesNothing);
        Check.sentence("One at most may lie.", ServersBoundsTests::oneLiar);
        Check.sentence("(What it certified ahead stays.)", ServersBoundsTests::certifiedAheadStays);
    }

    private static void clients() {
        Check.sentence("a REQUEST is ANSWERED (and stays so)", ServersBoundsTests::staysAnswered);
        Check.sentence("as soon as the REPLIES of two SERVERS that its CLIENT has", ServersBoundsTests::twoServers);
        Check.sentence("as soon as the REPLIES of two SERVERS that its CLIENT has",
                ServersBoundsTests::requestsAreApart);
        Check.sentence("of each the one that was brought last", ServersBoundsTests::broughtLast);
        Check.sentence("have the same result: with that", ServersBoundsTests::answeredWithNought);
    }

    private static void activeAtFirst() {
        CountedHouse h = new CountedHouse();
        h.request(0, 1, 0, 5);
        for (int s = 0; s < 3; s++) {
            says("at first", h, s, 0, 1);
        }
        Check.eq("so VIEW 0 needs no OPENING", h.bring(0, 0), 1);
        Check.eq("nor its followers", h.send(0, 1, 2), 1);
        historyIs("done", h, 2, 0);
    }

    private static void readsNext() {
        CountedHouse h = new CountedHouse();
        h.request(0, 1, 0, 5);
        says("at first", h, 0, 0, 1, 0, 0, 0, NONE, 1, 1, 1);
        h.bring(0, 0);
        says("its own at once", h, 0, 0, 1, 1, 0, 0, NONE, 2, 1, 1);
        h.send(0, 1, 1);
        says("its own COMMIT at once", h, 1, 0, 1, 1, 1, 0, NONE, 2, 2, 1);
        bothLate(h, 1, 2);
        says("its own CHANGE at once", h, 1, 1, 0, 2, 1, 0, 1, 2, 3, 1);
        h.send(2, 1, 1);
        says("its own NEW at once", h, 1, 1, 1, 3, 1, 0, 1, 2, 4, 2);
    }

    private static void greatestBrought() {
        // What the liar takes back stays with server 0; server 1 knows only what it was brought.
        CountedHouse h = new CountedHouse();
        h.lie(2);
        h.askFor(2, 5);
        h.ask(2, 0);
        h.askFor(2, 1);
        Check.eq("less is brought", h.ask(2, 0), 0);
        for (int w = 1; w <= 5; w++) {
            h.late(0);
        }
        says("5 was brought", h, 0, 5, 0, 5, 0, 0, 5);
        Check.eq("6 was not", h.late(0), 6);
        says("6 was not", h, 0, 5, 0, 5, 0, 0, 6);
        h.ask(2, 1);
        h.late(1);
        says("1 was brought", h, 1, 1, 0, 1, 0, 0, 1);
        h.late(1);
        says("2 was not", h, 1, 1, 0, 1, 0, 0, 2);
    }

    private static void noneLeftOut() {
        CountedHouse h = new CountedHouse();
        for (int i = 0; i < 5; i++) {
            h.request(0, 2, 0, 1);
            h.bring(i, 0);
        }
        Check.eq("the last alone", h.send(0, 5, 1), 0);
        Check.eq("the second", h.send(0, 2, 1), 0);
        says("nothing is READ", h, 1, 0, 1, 0, 0, 0, NONE, 1, 1, 1);
        Check.eq("the first: two", h.send(0, 1, 1), 2);
        Check.eq("the first again", h.send(0, 1, 1), 0);
        Check.eq("the fourth", h.send(0, 4, 1), 0);
        Check.eq("the third: three", h.send(0, 3, 1), 3);
        Check.eq("the last again", h.send(0, 5, 1), 0);
        historyIs("each once", h, 1, 0, 1, 2, 3, 4);
        says("each once", h, 1, 0, 1, 5, 5, 0, NONE, 6, 6, 1, 5);
    }

    private static void fromServerNoughtOnAgain() {
        // Servers 0 and 1 go through VIEW 1 to VIEW 2; server 2, which leads that, gets all of it late.
        CountedHouse h = new CountedHouse();
        for (int w = 1; w <= 2; w++) {
            bothLate(h, 0, 1);
            sendRest(h, 0, 1);
            sendRest(h, 1, 0);
        }
        h.send(0, 1, 2);
        Check.eq("a COMMIT of VIEW 1 waits", h.send(0, 2, 2), 0);
        Check.eq("and the CHANGE to VIEW 2", h.send(0, 3, 2), 0);
        Check.eq("a CHANGE of server 1", h.send(1, 1, 2), 1);
        Check.eq("its CHANGE to VIEW 2 is ahead of its turn", h.send(1, 3, 2), 0);
        Check.eq("the NEW frees four", h.send(1, 2, 2), 4);
        h.ask(0, 2);
        Check.eq("it opens VIEW 2", h.ask(1, 2), 1);
        isMessage("server 0's CHANGE was READ first", h, 2, 3, NEW, 2, 9, 10, 0);
    }

    private static void higherViewWaits() {
        CountedHouse h = new CountedHouse();
        h.request(0, 1, 0, 5);
        openViewOne(h);
        h.lie(2);
        h.certify(2, CHANGE, 1, 0, 0);
        h.certify(2, PREPARE, 30, 0, 0);
        Check.eq("a CHANGE never waits", h.send(2, 1, 0), 1);
        Check.eq("a COMMIT of VIEW 1 waits", h.send(2, 2, 0), 0);
        Check.eq("a CHANGE behind it", h.send(2, 3, 0), 0);
        Check.eq("a VOID one behind it", h.send(2, 4, 0), 0);
        says("all three wait", h, 0, 0, 1, 0, 0, 0, NONE, 1, 1, 2);
        Check.eq("not those of another one", h.send(1, 1, 0), 1);
        Check.eq("the NEW and all three", h.send(1, 2, 0), 4);
        says("nothing waits", h, 0, 1, 1, 1, 0, 0, NONE, 2, 3, 5);
    }

    private static void ownViewWaits() {
        CountedHouse h = new CountedHouse();
        openViewOne(h);
        h.ask(1, 0);
        h.ask(2, 0);
        says("in VIEW 1, not ACTIVE", h, 0, 1, 0, 1);
        Check.eq("a CHANGE never waits", h.send(2, 1, 0), 1);
        Check.eq("a COMMIT of VIEW 1 waits", h.send(2, 2, 0), 0);
        says("it waits", h, 0, 1, 0, 1, 0, 0, NONE, 2, 1, 2);
        h.send(1, 1, 0);
        Check.eq("the NEW and the COMMIT", h.send(1, 2, 0), 2);
        says("nothing waits", h, 0, 1, 1, 2, 0, 0, NONE, 3, 3, 3);
    }

    private static void voidNeverWaits() {
        CountedHouse h = new CountedHouse();
        h.request(0, 1, 0, 5);
        h.lie(2);
        h.certify(2, PREPARE, 30, 0, 0);
        h.certify(2, COMMIT, 30, 200, 0);
        h.certify(2, COMMIT, 1, 1, 0);
        h.certify(2, PREPARE, 2, 0, 0);
        Check.eq("PREPARE of VIEW 30", h.send(2, 1, 0), 1);
        Check.eq("COMMIT of VIEW 30", h.send(2, 2, 0), 1);
        says("nothing is done", h, 0, 0, 1, 0, 0, 0, NONE, 1, 1, 3);
        h.askFor(2, 1);
        h.ask(2, 0);
        h.late(0);
        says("in VIEW 1, not ACTIVE", h, 0, 1, 0, 1);
        Check.eq("COMMIT of its own VIEW", h.send(2, 3, 0), 1);
        Check.eq("PREPARE of the VIEW above", h.send(2, 4, 0), 1);
        says("nothing is done", h, 0, 1, 0, 1, 0, 0, 1, 2, 1, 5);
    }

    private static void lowerViewDoesNothing() {
        CountedHouse h = new CountedHouse();
        h.request(0, 1, 0, 5);
        h.bring(0, 0);
        h.send(0, 1, 2);
        bothLate(h, 0, 1);
        Check.eq("a PREPARE of VIEW 0", h.send(0, 1, 1), 1);
        says("is not committed", h, 1, 1, 0, 1, 0, 0, 1, 2, 2, 1);
        Check.eq("a COMMIT of VIEW 0", h.send(2, 1, 0), 1);
        says("is no vote: it is not done", h, 0, 1, 0, 2, 0, 0, 1, 3, 1, 2);
    }

    private static void hundredAndItsOwn() {
        CountedHouse h = new CountedHouse();
        h.request(0, 2, 0, 1);
        h.lie(0);
        for (int k = 1; k <= 100; k++) {
            h.certify(0, PREPARE, 0, 0, 0);
        }
        for (int k = 100; k >= 2; k--) {
            Check.eq("ahead of its turn", h.send(0, k, 1), 0);
        }
        Check.eq("a hundred", h.send(0, 1, 1), 100);
        says("and its own hundred", h, 1, 0, 1, 100, 100, 0, NONE, 101, 101, 1, 1);
    }

    private static void votesOfAnotherView() {
        // Server 1 has READ server 2's COMMITS of numbers 1 to 5 in VIEW 0, not the PREPARES; its NEW is number 2.
        CountedHouse h = new CountedHouse();
        for (int i = 0; i < 5; i++) {
            h.request(i % 4, 2, 0, 1);
            h.bring(i, 0);
            h.send(0, i + 1, 2);
            h.send(2, i + 1, 1);
        }
        bothLate(h, 1, 2);
        h.send(2, 6, 1);
        isMessage("the OPENING", h, 1, 2, NEW, 1, 4, 20, 0);
        historyIs("votes of VIEW 0 are none for it", h, 1);
        h.bring(0, 1);
        historyIs("nor for its PREPARE", h, 1);
        sendRest(h, 1, 2);
        Check.eq("the COMMIT of the OPENING", h.send(2, 7, 1), 1);
        historyIs("the ROW alone", h, 1, 0, 1, 2, 3, 4);
        Check.eq("the COMMIT of the PREPARE", h.send(2, 8, 1), 1);
        historyIs("and the PREPARE", h, 1, 0, 1, 2, 3, 4, 0);
    }

    private static void leaderCommitsNothing() {
        CountedHouse h = new CountedHouse();
        h.request(0, 1, 0, 5);
        h.bring(0, 0);
        says("its PREPARE alone", h, 0, 0, 1, 1, 0);
        openViewOne(h);
        says("its CHANGE and its NEW alone", h, 1, 1, 1, 2, 0);
        h.bring(0, 1);
        says("and its PREPARE", h, 1, 1, 1, 3, 0);
        sendRest(h, 1, 2);
        isMessage("another one commits the NEW", h, 2, 2, COMMIT, 1, 2, 0, 0);
        isMessage("and the PREPARE", h, 2, 3, COMMIT, 1, 3, 0, 0);
    }

    /** Server 2 lies and server 1 is in VIEW 1, which it leads, with its own CHANGE alone. */
    private static CountedHouse leaderAlone() {
        CountedHouse h = new CountedHouse();
        h.lie(2);
        h.askFor(2, 1);
        h.ask(2, 1);
        h.late(1);
        return h;
    }

    private static void changeToAnotherView() {
        CountedHouse h = leaderAlone();
        int[] others = {0, 2, 4, 28, 30};
        for (int i = 0; i < others.length; i++) {
            h.certify(2, CHANGE, others[i], 0, 0);
            Check.eq("READ", h.send(2, i + 1, 1), 1);
            says("a CHANGE to " + others[i], h, 1, 1, 0, 1);
        }
        h.certify(2, CHANGE, 1, 0, 0);
        h.send(2, 6, 1);
        says("a CHANGE to 1", h, 1, 1, 1, 2);
        isMessage("NEW", h, 1, 2, NEW, 1, 4, 20, 0);
    }

    private static void changeOfActiveView() {
        CountedHouse h = leaderAlone();
        h.certify(2, CHANGE, 1, 0, 0);
        h.certify(2, CHANGE, 1, 0, 0);
        h.send(2, 1, 1);
        says("opened", h, 1, 1, 1, 2);
        Check.eq("one more CHANGE", h.send(2, 2, 1), 1);
        says("no second NEW", h, 1, 1, 1, 2);
        h.ask(1, 0);
        h.ask(2, 0);
        Check.eq("of the third one", h.send(0, 1, 1), 1);
        says("no second NEW", h, 1, 1, 1, 2);
        CountedHouse g = new CountedHouse();
        g.lie(2);
        g.certify(2, CHANGE, 0, 0, 0);
        Check.eq("to VIEW 0", g.send(2, 1, 0), 1);
        says("its LEADER does nothing", g, 0, 0, 1, 0);
    }

    private static void changeOfNoLeader() {
        CountedHouse h = new CountedHouse();
        bothLate(h, 0, 1);
        h.ask(0, 2);
        h.ask(1, 2);
        h.send(0, 1, 2);
        h.send(1, 1, 2);
        says("three CHANGES, no LEADER", h, 2, 1, 0, 1);
        h.send(1, 1, 0);
        says("two CHANGES, no LEADER", h, 0, 1, 0, 1);
        h.send(0, 1, 1);
        says("two CHANGES, the LEADER", h, 1, 1, 1, 2);
    }

    private static void changesOfOneServer() {
        CountedHouse h = leaderAlone();
        says("its own alone", h, 1, 1, 0, 1);
        CountedHouse g = new CountedHouse();
        g.lie(2);
        g.certify(2, CHANGE, 1, 0, 0);
        g.certify(2, CHANGE, 1, 0, 0);
        g.send(2, 1, 1);
        g.send(2, 2, 1);
        says("another's two, in VIEW 0", g, 1, 0, 1, 0);
        g.askFor(2, 1);
        g.ask(2, 1);
        g.late(1);
        says("and its own", g, 1, 1, 1, 2);
        isMessage("two SERVERS", g, 1, 2, NEW, 1, 5, 4, 0);
    }

    private static void firstTwoChanges() {
        CountedHouse h = new CountedHouse();
        bothLate(h, 0, 2);
        h.send(2, 1, 1);
        h.send(0, 1, 1);
        says("READ in VIEW 0", h, 1, 0, 1, 0);
        h.ask(0, 1);
        h.ask(2, 1);
        isMessage("2, then 0; its own was the third", h, 1, 2, NEW, 1, 5, 3, 0);
        CountedHouse g = new CountedHouse();
        bothLate(g, 0, 2);
        g.send(0, 1, 1);
        g.ask(0, 1);
        g.ask(2, 1);
        isMessage("0, then its own", g, 1, 2, NEW, 1, 3, 4, 0);
    }

    private static void newOfHigherView() {
        CountedHouse h = new CountedHouse();
        for (int w = 1; w <= 4; w++) {
            bothLate(h, 1, 2);
        }
        sendRest(h, 2, 1);
        isMessage("server 1 opens VIEW 4", h, 1, 5, NEW, 4, 13, 14, 0);
        for (int k = 1; k <= 4; k++) {
            Check.eq("a CHANGE", h.send(1, k, 0), 1);
            says("does nothing", h, 0, 0, 1, 0);
        }
        Check.eq("the NEW", h.send(1, 5, 0), 1);
        says("from VIEW 0 to VIEW 4 at once", h, 0, 4, 1, 1, 0, 0, NONE, 2, 6, 1);
        isMessage("without a CHANGE", h, 0, 1, COMMIT, 4, 5, 0, 0);
    }

    private static void newThatIsVoid() {
        CountedHouse h = new CountedHouse();
        h.lie(1);
        h.certify(1, CHANGE, 1, 0, 0);
        h.certify(1, NEW, 1, 4, 5);
        h.certify(1, NEW, 28, 600, 599);
        for (int k = 1; k <= 3; k++) {
            Check.eq("READ", h.send(1, k, 0), 1);
            says("it stays", h, 0, 0, 1, 0);
        }
    }

    private static void newOfOwnView() {
        CountedHouse h = new CountedHouse();
        bothLate(h, 1, 2);
        h.send(2, 1, 1);
        says("not ACTIVE", h, 2, 1, 0, 1);
        h.send(1, 1, 2);
        says("not ACTIVE", h, 2, 1, 0, 1);
        h.send(1, 2, 2);
        says("ACTIVE", h, 2, 1, 1, 2);
        isMessage("it commits the NEW", h, 2, 2, COMMIT, 1, 2, 0, 0);
    }

    private static void preparesOfAnotherViewAreGone() {
        // Server 0 prepared two in VIEW 0, which nobody committed; VIEW 1 opens without them.
        CountedHouse h = new CountedHouse();
        h.request(0, 1, 0, 5);
        h.request(1, 1, 1, 6);
        h.bring(0, 0);
        h.bring(1, 0);
        openViewOne(h);
        h.bring(1, 1);
        sendRest(h, 1, 0);
        historyIs("that of VIEW 1 alone", h, 0, 1);
        says("that of VIEW 1 alone", h, 0, 1, 1, 4, 1, 0, NONE, 5, 4, 1, 0, 6);
    }

    private static void preparesBeginAnew() {
        // Server 2 did two in VIEW 0; the first of VIEW 1 is done as the next one.
        CountedHouse h = new CountedHouse();
        for (int i = 0; i < 3; i++) {
            h.request(i, 2, 0, 1);
        }
        h.bring(0, 0);
        h.bring(1, 0);
        sendRest(h, 0, 2);
        openViewOne(h);
        historyIs("two in VIEW 0", h, 2, 0, 1);
        h.bring(2, 1);
        sendRest(h, 1, 2);
        historyIs("and one in VIEW 1", h, 2, 0, 1, 2);
        sendRest(h, 2, 1);
        historyIs("its LEADER likewise", h, 1, 0, 1, 2);
    }

    private static void newOfLowerView() {
        CountedHouse h = new CountedHouse();
        openViewOne(h);
        bothLate(h, 1, 2);
        h.ask(1, 0);
        h.ask(2, 0);
        says("in VIEW 2, not ACTIVE", h, 0, 2, 0, 1);
        Check.eq("a CHANGE", h.send(1, 1, 0), 1);
        Check.eq("the NEW of VIEW 1", h.send(1, 2, 0), 1);
        says("it stays", h, 0, 2, 0, 1, 0, 0, NONE, 2, 3, 1);
    }

    private static void newOfActiveView() {
        CountedHouse h = new CountedHouse();
        h.request(0, 2, 0, 1);
        h.request(1, 2, 0, 1);
        h.lie(1);
        bothLate(h, 0, 2);
        h.certify(1, CHANGE, 1, 0, 0);
        h.certify(1, NEW, 1, 3, 5);
        h.certify(1, PREPARE, 1, 0, 0);
        h.certify(1, NEW, 1, 4, 5);
        h.certify(1, PREPARE, 1, 1, 0);
        for (int k = 1; k <= 3; k++) {
            h.send(1, k, 0);
        }
        says("the OPENING and a PREPARE", h, 0, 1, 1, 3, 1);
        Check.eq("a second NEW, not VOID", h.message(1, 4, 4), 0);
        Check.eq("is READ", h.send(1, 4, 0), 1);
        says("and does nothing", h, 0, 1, 1, 3, 1, 0, 1, 4, 5, 1, 1);
        h.send(1, 5, 0);
        historyIs("the PREPARES go on", h, 0, 0, 1);
    }

    private static void openingOfOneVote() {
        // Server 1 opens VIEW 1 with what server 0 prepared and nobody did.
        CountedHouse h = new CountedHouse();
        h.request(0, 1, 0, 5);
        h.bring(0, 0);
        bothLate(h, 0, 1);
        sendRest(h, 0, 1);
        rowIs("the ROW", h, 1, 0);
        says("the LEADER's own vote alone", h, 1, 1, 1, 2, 0);
        sendRest(h, 1, 2);
        historyIs("another one's COMMIT is its second", h, 2, 0);
        says("the LEADER has not READ it", h, 1, 1, 1, 2, 0);
        Check.eq("now it does", h.send(2, 1, 1), 1);
        historyIs("two votes", h, 1, 0);
    }

    private static void restOfRow() {
        // Server 1 did the first of three; the ROW has all three.
        CountedHouse h = new CountedHouse();
        for (int i = 0; i < 3; i++) {
            h.request(i, 2, 0, 1);
            h.bring(i, 0);
        }
        h.send(0, 1, 1);
        historyIs("the first", h, 1, 0);
        bothLate(h, 0, 1);
        sendRest(h, 0, 1);
        rowIs("the ROW", h, 1, 0, 1, 2);
        historyIs("one vote", h, 1, 0);
        sendRest(h, 1, 0);
        historyIs("server 0 had none", h, 0, 0, 1, 2);
        sendRest(h, 0, 1);
        historyIs("server 1 does the rest", h, 1, 0, 1, 2);
        Check.eq("each once", h.state(1, 9), 3);
    }

    private static void rowAsLongAsHistory() {
        CountedHouse h = new CountedHouse();
        h.request(0, 2, 0, 1);
        h.request(1, 2, 0, 1);
        h.bring(0, 0);
        h.bring(1, 0);
        sendRest(h, 0, 1);
        openViewOne(h);
        rowIs("the ROW", h, 1, 0, 1);
        historyIs("nothing is done twice", h, 1, 0, 1);
        historyIs("server 2 does all", h, 2, 0, 1);
        Check.eq("each once", h.state(1, 9), 2);
    }

    private static void prepareBehindOpening() {
        CountedHouse h = new CountedHouse();
        h.request(0, 1, 0, 5);
        bothLate(h, 1, 2);
        h.send(2, 1, 1);
        Check.eq("it prepares at once", h.bring(0, 1), 1);
        h.lie(2);
        h.certify(2, COMMIT, 1, 3, 0);
        Check.eq("a vote for the PREPARE", h.send(2, 2, 1), 1);
        historyIs("the OPENING is not done", h, 1);
        h.certify(2, COMMIT, 1, 2, 0);
        Check.eq("a vote for the OPENING", h.send(2, 3, 1), 1);
        historyIs("both are", h, 1, 0);
    }

    private static void nextWithoutVote() {
        CountedHouse h = new CountedHouse();
        for (int i = 0; i < 4; i++) {
            h.request(i, 2, 0, 1);
            h.bring(i, 0);
        }
        h.lie(2);
        int[] votes = {4, 2, 1, 3};
        int[] done = {0, 0, 2, 4};
        for (int i = 0; i < 4; i++) {
            h.certify(2, COMMIT, 0, votes[i], 0);
            Check.eq("READ", h.send(2, i + 1, 0), 1);
            Check.eq("a vote for " + votes[i], h.state(0, 3), done[i]);
        }
        historyIs("in order", h, 0, 0, 1, 2, 3);
    }

    private static void sixtyAtOnce() {
        CountedHouse h = new CountedHouse();
        h.lie(2);
        for (int i = 0; i < 60; i++) {
            h.request(i % 4, 2, 0, 1);
            h.bring(i, 0);
        }
        for (int k = 1; k <= 60; k++) {
            h.certify(2, COMMIT, 0, 61 - k, 0);
            h.send(2, k, 0);
            Check.eq("done", h.state(0, 3), k == 60 ? 60 : 0);
        }
        Check.eq("each with effect", h.state(0, 9), 60);
    }

    private static void numberNotAbove() {
        // Of client 0: its second, its first, its second again, its third; of client 1 its first.
        CountedHouse h = new CountedHouse();
        for (int i = 0; i < 3; i++) {
            h.request(0, 2, 0, i == 0 ? 1 : i * 10);
        }
        h.request(1, 2, 0, 1000);
        h.lie(0);
        int[] order = {1, 0, 1, 2, 3, 2};
        int[] value = {10, 10, 10, 30, 1030, 1030};
        for (int i = 0; i < order.length; i++) {
            h.certify(0, PREPARE, 0, order[i], 0);
            h.send(0, i + 1, 1);
            Check.eq("the KEY behind " + i, h.state(1, 9), value[i]);
        }
        historyIs("all of them", h, 1, 1, 0, 1, 2, 3, 2);
    }

    private static void noEffect() {
        CountedHouse h = new CountedHouse();
        h.request(0, 1, 0, 7);
        h.request(0, 1, 0, 8);
        h.bring(1, 0);
        h.bring(0, 0);
        sendRest(h, 0, 1);
        historyIs("both", h, 1, 1, 0);
        Check.eq("a REPLY", h.reply(1, 1), 0);
        Check.eq("no REPLY", h.reply(1, 0), NONE);
        Check.eq("no result", h.result(1, 0), 0);
        Check.eq("the KEY", h.state(1, 9), 8);
        // One that had effect keeps its REPLY when it is done again without.
        CountedHouse g = new CountedHouse();
        g.request(0, 2, 0, 7);
        g.lie(0);
        g.certify(0, PREPARE, 0, 0, 0);
        g.certify(0, PREPARE, 0, 0, 0);
        g.send(0, 1, 2);
        g.send(0, 2, 2);
        historyIs("twice", g, 2, 0, 0);
        Check.eq("the REPLY of the first", g.result(2, 0), 7);
        Check.eq("the KEY", g.state(2, 9), 7);
    }

    private static void bringToOthers() {
        CountedHouse h = new CountedHouse();
        h.request(0, 1, 0, 5);
        Check.eq("no LEADER of VIEW 0", h.bring(0, 1), 0);
        Check.eq("no LEADER of VIEW 0", h.bring(0, 2), 0);
        bothLate(h, 1, 2);
        says("LEADER of VIEW 1, not ACTIVE", h, 1, 1, 0, 1);
        Check.eq("not ACTIVE", h.bring(0, 1), 0);
        h.send(2, 1, 1);
        Check.eq("ACTIVE", h.bring(0, 1), 1);
        sendRest(h, 1, 0);
        Check.eq("LEADER of VIEW 0, in VIEW 1 by now", h.bring(0, 0), 0);
        Check.eq("nothing certified but COMMITS", h.state(0, 2), 2);
    }

    private static void bringAgain() {
        CountedHouse h = new CountedHouse();
        h.request(0, 1, 0, 5);
        h.request(0, 1, 0, 5);
        Check.eq("the first", h.bring(0, 0), 1);
        Check.eq("again", h.bring(0, 0), 0);
        Check.eq("another one just like it", h.bring(1, 0), 1);
        Check.eq("again", h.bring(0, 0), 0);
        h.send(0, 1, 1);
        h.send(1, 1, 0);
        historyIs("done", h, 0, 0);
        Check.eq("again, done by now", h.bring(0, 0), 0);
        // Servers 0 and 1 go to VIEW 3, which server 0 leads again.
        for (int w = 1; w <= 3; w++) {
            bothLate(h, 0, 1);
        }
        sendRest(h, 1, 0);
        says("VIEW 3", h, 0, 3, 1, 6);
        Check.eq("in another VIEW", h.bring(0, 0), 1);
        Check.eq("again there", h.bring(0, 0), 0);
        isMessage("of VIEW 3", h, 0, 7, PREPARE, 3, 0, 0, 0);
    }

    private static void lateAtTheEnd() {
        CountedHouse h = new CountedHouse();
        h.lie(2);
        h.askFor(2, 30);
        h.ask(2, 0);
        for (int w = 1; w <= 29; w++) {
            Check.eq("late", h.late(0), w);
        }
        says("VIEW 29", h, 0, 29, 0, 29, 0, 0, 29);
        Check.eq("the last VIEW", h.late(0), 30);
        says("VIEW 30", h, 0, 30, 0, 30, 0, 0, 30);
        Check.eq("none behind it", h.late(0), NONE);
        says("as it was", h, 0, 30, 0, 30, 0, 0, 30);
        isMessage("the last CHANGE", h, 0, 30, CHANGE, 30, 0, 0, 0);
        // VIEW 30 opens like any other: server 0 leads it.
        h.certify(2, CHANGE, 30, 0, 0);
        h.send(2, 1, 0);
        isMessage("the NEW of VIEW 30", h, 0, 31, NEW, 30, 90, 5, 0);
        Check.eq("ACTIVE there: none behind it", h.late(0), NONE);
        says("as it was", h, 0, 30, 1, 31, 0, 0, 30);
    }

    private static void askedByThen() {
        CountedHouse h = new CountedHouse();
        h.late(0);
        h.late(1);
        Check.eq("asked for 1", h.ask(0, 1), 1);
        h.late(1);
        says("1 asks for 2", h, 1, 1, 0, 1, 0, 0, 2);
        Check.eq("2 is brought, own is 1", h.ask(1, 0), 1);
        says("to the lesser", h, 0, 1, 0, 1, 0, 0, 1);
        h.late(0);
        says("2 was brought ahead", h, 0, 2, 0, 2, 0, 0, 2);
    }

    private static void askedForItsOwnView() {
        CountedHouse h = new CountedHouse();
        bothLate(h, 0, 1);
        says("VIEW 1", h, 1, 1, 0, 1, 0, 0, 1);
        h.late(2);
        Check.eq("VIEW 1 is not above its own", h.ask(2, 1), 0);
        Check.eq("nor again", h.ask(0, 1), 0);
        says("as it was", h, 1, 1, 0, 1, 0, 0, 1);
        // One above and one alike are not two above.
        h.late(0);
        Check.eq("VIEW 2 of one alone", h.ask(0, 1), 0);
        Check.eq("its own too", h.late(1), 2);
        says("two are above", h, 1, 2, 0, 2, 0, 0, 2);
        // VIEW 0, asked for by a liar, is above nothing.
        CountedHouse g = new CountedHouse();
        g.lie(2);
        g.askFor(2, 0);
        Check.eq("VIEW 0", g.ask(2, 0), 0);
        g.late(0);
        says("VIEW 0 is not above its own", g, 0, 0, 1, 0, 0, 0, 1);
    }

    private static void lesserOfTwo() {
        CountedHouse h = new CountedHouse();
        h.lie(2);
        h.askFor(2, 9);
        h.ask(2, 0);
        h.ask(2, 1);
        for (int w = 1; w <= 4; w++) {
            h.late(1);
        }
        says("9 and 4", h, 1, 4, 0, 4, 0, 0, 4);
        Check.eq("9 and 4, its own is none", h.ask(1, 0), 1);
        says("to 4 at once, with one CHANGE", h, 0, 4, 0, 1, 0, 0, NONE);
        isMessage("to 4", h, 0, 1, CHANGE, 4, 0, 0, 0);
        h.late(0);
        says("9, 5 and 4", h, 0, 5, 0, 2, 0, 0, 5);
        h.late(1);
        h.late(1);
        Check.eq("9, 6 and 5", h.ask(1, 0), 1);
        says("to 6", h, 0, 6, 0, 3, 0, 0, 5);
        // An ACTIVE one leaves its VIEW likewise.
        CountedHouse g = new CountedHouse();
        openViewOne(g);
        says("ACTIVE", g, 2, 1, 1, 2);
        bothLate(g, 1, 2);
        says("not ACTIVE", g, 2, 2, 0, 3);
    }

    private static void liarDoesNothing() {
        CountedHouse h = new CountedHouse();
        h.request(0, 1, 0, 5);
        h.request(1, 1, 0, 6);
        h.bring(0, 0);
        h.lie(0);
        h.send(0, 1, 1);
        long before = picture(h);
        Check.eq("bring", h.bring(1, 0), 0);
        Check.eq("send", h.send(1, 1, 0), 0);
        Check.eq("late", h.late(0), NONE);
        Check.eq("nothing changed", picture(h), before);
        bothLate(h, 1, 2);
        Check.eq("ask", h.ask(1, 0), 0);
        Check.eq("ask", h.ask(2, 0), 0);
        Check.eq("a CHANGE is not READ", h.send(2, 1, 0), 0);
        says("as it was", h, 0, 0, 1, 1, 0, 1, NONE, 2, 1, 1, 0, 0, 0, 0);
        // What waited stays so.
        h.certify(0, CHANGE, 1, 0, 0);
        says("its own is not READ", h, 0, 0, 1, 2, 0, 1, NONE, 2, 1, 1);
    }

    private static void oneLiar() {
        for (int liar = 0; liar < 3; liar++) {
            CountedHouse h = new CountedHouse();
            for (int s = 0; s < 3; s++) {
                Check.eq("nobody at first", h.state(s, 4), 0);
            }
            Check.yes("the first", h.lie(liar));
            Check.no("another one", h.lie((liar + 1) % 3));
            Check.no("the third", h.lie((liar + 2) % 3));
            Check.yes("the first again", h.lie(liar));
            for (int s = 0; s < 3; s++) {
                int server = s;
                Check.eq("who lied", h.state(s, 4), s == liar ? 1 : 0);
                if (s != liar) {
                    Check.refuses("true ones are told nothing", STATE, () -> h.certify(server, CHANGE, 1, 0, 0));
                }
            }
        }
    }

    private static void certifiedAheadStays() {
        CountedHouse h = new CountedHouse();
        h.request(0, 1, 0, 5);
        h.bring(0, 0);
        h.send(0, 1, 2);
        h.late(2);
        h.lie(2);
        isMessage("its COMMIT", h, 2, 1, COMMIT, 0, 1, 0, 0);
        Check.eq("still counts", h.send(2, 1, 0), 1);
        historyIs("still counts", h, 0, 0);
        Check.eq("its number goes on", h.certify(2, CHANGE, 0, 0, 0), 2);
        Check.eq("its ASKING", h.state(2, 5), 1);
        Check.eq("its REPLY", h.reply(2, 0), 0);
        Check.eq("its REPLY and another one", h.reply(0, 0), 1);
    }

    private static void staysAnswered() {
        CountedHouse h = new CountedHouse();
        h.request(0, 2, 0, 6);
        h.bring(0, 0);
        h.send(0, 1, 1);
        h.lie(2);
        h.replyWith(2, 0, 6);
        h.reply(2, 0);
        Check.eq("two", h.reply(1, 0), 1);
        h.replyWith(2, 0, 99);
        Check.eq("another result now", h.reply(2, 0), 1);
        Check.eq("it stays", h.told(0, 2), 1);
        Check.eq("with that", h.told(0, 3), 6);
    }

    private static void twoServers() {
        CountedHouse h = new CountedHouse();
        h.request(0, 2, 0, 6);
        h.bring(0, 0);
        h.send(0, 1, 1);
        h.send(0, 1, 2);
        Check.eq("none is brought", h.told(0, 2), 0);
        Check.eq("one", h.reply(1, 0), 0);
        Check.eq("the same one again", h.reply(1, 0), 0);
        Check.eq("not ANSWERED", h.told(0, 2), 0);
        Check.eq("no REPLY of the LEADER yet", h.reply(0, 0), NONE);
        Check.eq("not ANSWERED", h.told(0, 2), 0);
        Check.eq("two", h.reply(2, 0), 1);
        Check.eq("ANSWERED", h.told(0, 2), 1);
        // Each pair of SERVERS is one.
        for (int liar = 0; liar < 3; liar++) {
            CountedHouse g = new CountedHouse();
            g.request(0, 2, 0, 6);
            g.bring(0, 0);
            g.send(0, 1, 1);
            g.send(0, 1, 2);
            g.send(1, 1, 0);
            g.lie(liar);
            g.replyWith(liar, 0, 7);
            g.reply(liar, 0);
            Check.eq("two that differ", g.reply((liar + 1) % 3, 0), 0);
            Check.eq("the other two", g.reply((liar + 2) % 3, 0), 1);
            Check.eq("with theirs", g.told(0, 3), 6);
        }
    }

    private static void requestsAreApart() {
        // All have the result 6 at each KEY: REPLIES to one REQUEST answer no other one.
        CountedHouse h = new CountedHouse();
        for (int i = 0; i < 60; i++) {
            h.request(i % 4, i < 4 ? 2 : 0, i % 4, 6);
            h.bring(i, 0);
            h.send(0, i + 1, 1);
            h.send(0, i + 1, 2);
        }
        for (int r = 0; r < 60; r++) {
            Check.eq("one REPLY to " + r, h.reply(r % 2 + 1, r), 0);
        }
        for (int r = 0; r < 60; r++) {
            Check.eq("two REPLIES to " + r, h.reply(2 - r % 2, r), 1);
        }
        Check.eq("the last", h.told(59, 3), 6);
    }

    private static void broughtLast() {
        CountedHouse h = new CountedHouse();
        h.request(0, 2, 0, 6);
        h.lie(2);
        h.replyWith(2, 0, 6);
        h.reply(2, 0);
        h.replyWith(2, 0, 7);
        h.reply(2, 0);
        h.bring(0, 0);
        h.send(0, 1, 1);
        Check.eq("the one ahead is gone", h.reply(1, 0), 0);
        h.replyWith(2, 0, 6);
        Check.eq("not brought yet", h.told(0, 2), 0);
        Check.eq("brought", h.reply(2, 0), 1);
    }

    private static void answeredWithNought() {
        CountedHouse h = new CountedHouse();
        h.request(0, 0, 0, 0);
        h.request(1, 2, 0, LEAST);
        h.bring(0, 0);
        h.bring(1, 0);
        sendRest(h, 0, 1);
        sendRest(h, 0, 2);
        h.reply(1, 0);
        // The third has no REPLY: nothing is not a result of 0.
        Check.eq("one of 0", h.told(0, 2), 0);
        Check.eq("two of 0", h.reply(2, 0), 1);
        Check.eq("ANSWERED", h.told(0, 2), 1);
        Check.eq("with 0", h.told(0, 3), 0);
        h.reply(1, 1);
        h.reply(2, 1);
        Check.eq("with the least", h.told(1, 3), LEAST);
    }
}
