/** The document from its first line on: the sentences that name no bound, each with its test. */
public final class DocumentTests extends HouseSteps {

    public static void main(String[] args) {
        whatItIs();
        terms();
        voidOrNot();
        servers();
        done();
        promises();
        Check.end("DocumentTests");
    }

    private static void whatItIs() {
        Check.sentence("Three servers that keep one small map alike for their clients though one of them may lie",
                DocumentTests::alikeThoughOneLies);
        Check.sentence("each has a counter of its own that numbers what it certifies, never twice the same",
                DocumentTests::countersOfTheirOwn);
        Check.sentence("servers are led by one, voted for, and change their leader", DocumentTests::ledAndVotedFor);
        Check.sentence("all that is sent comes when it is brought, late, in any order, or never",
                DocumentTests::comesWhenBrought);
        Check.sentence("public final class CountedHouse {", DocumentTests::faceAsWritten);
    }

    private static void terms() {
        Check.sentence("A REQUEST of a CLIENT: its own next number (from 1 on), a KIND, a KEY (0 to 3), a NUMBER (int)",
                DocumentTests::partsOfRequests);
        Check.sentence("everybody can ask for what they have, once they are told of",
                DocumentTests::everybodyCanAsk);
        Check.sentence("MESSAGES: PREPARE (a VIEW, a REQUEST); COMMIT (a VIEW, the number of a MESSAGE of that VIEW's "
                + "LEADER); CHANGE (a VIEW); NEW (a VIEW, two SERVERS and a number of each).",
                DocumentTests::fourKinds);
    }

    private static void voidOrNot() {
        Check.sentence("VOID or not (asked of a MESSAGE by what SERVERS certified, alike for all)",
                DocumentTests::voidByWhatIsCertified);
        Check.sentence("ROW of VIEW w above 0 (told by its OPENING, of SERVERS i, j with numbers a, b)",
                DocumentTests::rowOfTheTwo);
        Check.sentence("that are such a one of i or j", DocumentTests::rowOfTheTwo);
    }

    private static void servers() {
        Check.sentence("a MAP, a HISTORY (REQUESTS that it did)", DocumentTests::mapsAndHistoriesAreApart);
        Check.sentence("of each SERVER which MESSAGES it was brought", DocumentTests::broughtStaysBrought);
        Check.sentence("It READS MESSAGES of each SERVER", DocumentTests::readsOfBothOthers);
        Check.sentence("READ: PREPARE of its VIEW: it is put behind the PREPARES of this VIEW",
                DocumentTests::behindThePrepares);
        Check.sentence("A REQUEST that is brought to it, when it is ACTIVE and its VIEW's LEADER, and it certified no "
                + "PREPARE of it in this VIEW: it certifies one.", DocumentTests::broughtInEachView);
        Check.sentence("An ASKING that is brought to it", DocumentTests::askingIsBroughtOnce);
        Check.sentence("it certifies what it is told, asks and replies what it is told",
                DocumentTests::liarDoesWhatItIsTold);
    }

    private static void done() {
        Check.sentence("DONE: as long as it is ACTIVE", DocumentTests::nothingDoneWhileNotActive);
        Check.sentence("first, if its VIEW has an OPENING", DocumentTests::rowAheadOfPrepares);
        Check.sentence("(the LEADER's own, another one's): its REQUEST is done", DocumentTests::anyOtherVoteWillDo);
        Check.sentence("To do a REQUEST: it comes at the end of the HISTORY", DocumentTests::endOfHistory);
        Check.sentence("it is done with effect: on the MAP, and the SERVER has a REPLY for it",
                DocumentTests::mapAndReply);
        Check.sentence("This is looked at behind each MESSAGE that it READS.", DocumentTests::lookedAtBehindEach);
    }

    private static void promises() {
        Check.sentence("MESSAGE k of a SERVER is brought to another one (what it READS by that, it READS at once)",
                DocumentTests::readAtOnce);
        Check.sentence("The ASKING of a SERVER (the greatest VIEW that it asked for so far",
                DocumentTests::askingIsBroughtOnce);
        Check.sentence("The REPLY of a SERVER to a REQUEST is brought to its CLIENT", DocumentTests::replyIsBrought);
        Check.sentence("One that has LIED certifies a MESSAGE", DocumentTests::certifyTellsItsNumber);
        Check.sentence("of a VIEW: its number", DocumentTests::certifyTellsItsNumber);
        Check.sentence("Of a SERVER: 0 its VIEW, 1 whether it is ACTIVE (1, 0), 2 MESSAGES it certified, 3 how many "
                + "REQUESTS its HISTORY has, 4 whether it has LIED", DocumentTests::stateOfEachServer);
        Check.sentence("6 to 8 the number of the MESSAGE of SERVER 0, 1, 2 that it READS next",
                DocumentTests::stateOfEachServer);
        Check.sentence("Of MESSAGE k of a SERVER: 0 its kind (as certify()), 1 its VIEW, 2 a, 3 b (as certify();",
                DocumentTests::messagesAsCertified);
        Check.sentence("4 whether it is VOID.", DocumentTests::messagesAsCertified);
        Check.sentence("Nothing is promised beyond the answers and state changes described above",
                DocumentTests::lookingChangesNothing);
    }

    private static void mapIs(String what, CountedHouse h, int server, int... due) {
        for (int key = 0; key < due.length; key++) {
            Check.eq(what + ": key " + key + " of server " + server, h.state(server, 9 + key), due[key]);
        }
    }

    private static void alikeThoughOneLies() {
        // The liar leads: it can hold back and mix, but not show two servers two things of one number.
        CountedHouse h = new CountedHouse();
        h.request(0, 1, 0, 5);
        h.request(1, 2, 0, 3);
        h.request(2, 1, 1, 9);
        h.lie(0);
        h.certify(0, PREPARE, 0, 0, 0);
        h.certify(0, PREPARE, 0, 1, 0);
        h.certify(0, PREPARE, 0, 2, 0);
        for (int k = 1; k <= 3; k++) {
            h.send(0, k, 1);
            h.send(0, 4 - k, 2);
        }
        for (int s = 1; s <= 2; s++) {
            historyIs("alike", h, s, 0, 1, 2);
            mapIs("alike", h, s, 8, 9, 0, 0);
        }
        h.replyWith(0, 1, 77);
        Check.eq("the lie", h.reply(0, 1), 0);
        Check.eq("a lie and a truth", h.reply(1, 1), 0);
        Check.eq("two truths", h.reply(2, 1), 1);
        Check.eq("answered with the truth", h.told(1, 3), 8);
        // One true server alone saw a PREPARE more: the next VIEW takes it over, for both.
        h.request(3, 1, 3, 4);
        h.certify(0, PREPARE, 0, 3, 0);
        h.send(0, 4, 2);
        historyIs("server 2 alone", h, 2, 0, 1, 2, 3);
        openViewOne(h);
        sendRest(h, 2, 1);
        for (int s = 1; s <= 2; s++) {
            historyIs("alike in VIEW 1", h, s, 0, 1, 2, 3);
            mapIs("alike in VIEW 1", h, s, 8, 9, 0, 4);
        }
        h.certify(0, PREPARE, 0, 0, 0);
        h.certify(0, COMMIT, 1, h.state(1, 2), 0);
        h.send(0, 4, 1);
        h.send(0, 5, 1);
        h.send(0, 6, 1);
        historyIs("the old leader is of no use", h, 1, 0, 1, 2, 3);
    }

    private static void countersOfTheirOwn() {
        CountedHouse h = new CountedHouse();
        h.request(0, 1, 0, 5);
        h.bring(0, 0);
        h.send(0, 1, 1);
        Check.eq("the leader's first", h.state(0, 2), 1);
        Check.eq("the follower's first", h.state(1, 2), 1);
        Check.eq("none yet", h.state(2, 2), 0);
        isMessage("the leader's first", h, 0, 1, PREPARE, 0, 0, 0, 0);
        isMessage("the follower's first", h, 1, 1, COMMIT, 0, 1, 0, 0);
        h.lie(1);
        Check.eq("a liar's numbers go on", h.certify(1, COMMIT, 0, 1, 0), 2);
        Check.eq("the same once more has another number", h.certify(1, COMMIT, 0, 1, 0), 3);
        Check.eq("one counter for all kinds", h.certify(1, CHANGE, 7, 0, 0), 4);
        Check.eq("one counter for all kinds", h.certify(1, NEW, 7, 13, 13), 5);
        Check.eq("one counter for all VIEWS", h.certify(1, PREPARE, 1, 0, 0), 6);
        Check.eq("the others' go their own way", h.state(0, 2), 1);
        Check.eq("the others' go their own way", h.state(2, 2), 0);
    }

    private static void ledAndVotedFor() {
        CountedHouse h = new CountedHouse();
        h.request(0, 2, 0, 1);
        h.request(0, 2, 0, 1);
        Check.eq("1 does not lead", h.bring(0, 1), 0);
        Check.eq("2 does not lead", h.bring(0, 2), 0);
        Check.eq("0 leads", h.bring(0, 0), 1);
        historyIs("the leader's vote alone", h, 0);
        h.send(0, 1, 2);
        historyIs("with its own", h, 2, 0);
        h.send(2, 1, 0);
        historyIs("with another one's", h, 0, 0);
        historyIs("one that was brought nothing", h, 1);
        openViewOne(h);
        Check.eq("0 still leads VIEW 0", h.bring(1, 0), 1);
        Check.eq("2 does not lead", h.bring(1, 2), 0);
        Check.eq("1 leads VIEW 1", h.bring(1, 1), 1);
        sendRest(h, 1, 2);
        historyIs("1 was voted for", h, 2, 0, 1);
        sendRest(h, 0, 2);
        historyIs("0 no longer", h, 2, 0, 1);
    }

    private static void comesWhenBrought() {
        int[][] orders = {{1, 2, 3}, {1, 3, 2}, {2, 1, 3}, {2, 3, 1}, {3, 1, 2}, {3, 2, 1}};
        int[][] counts = {{1, 1, 1}, {1, 0, 2}, {0, 2, 1}, {0, 0, 3}, {0, 1, 2}, {0, 0, 3}};
        for (int i = 0; i < orders.length; i++) {
            CountedHouse h = new CountedHouse();
            for (int r = 0; r < 3; r++) {
                h.request(r, 2, 0, r + 1);
                h.bring(r, 0);
            }
            says("nothing comes by itself", h, 1, 0, 1, 0, 0, 0, NONE, 1, 1, 1, 0, 0, 0, 0);
            for (int k = 0; k < 3; k++) {
                Check.eq("order " + i + ", the " + k + ". brought", h.send(0, orders[i][k], 1), counts[i][k]);
            }
            says("in any order", h, 1, 0, 1, 3, 3, 0, NONE, 4, 4, 1, 6, 0, 0, 0);
            says("never", h, 2, 0, 1, 0, 0, 0, NONE, 1, 1, 1, 0, 0, 0, 0);
            // Late: the leader and its follower have gone on to VIEW 1 without it.
            bothLate(h, 0, 1);
            sendRest(h, 0, 1);
            sendRest(h, 1, 2);
            says("by the leader of VIEW 1 alone", h, 2, 1, 1, 1, 3, 0, NONE, 1, 6, 2, 6, 0, 0, 0);
            Check.eq("late", h.send(0, 1, 2), 1);
            says("late", h, 2, 1, 1, 1, 3, 0, NONE, 2, 6, 2, 6, 0, 0, 0);
        }
    }

    private static void faceAsWritten() {
        String document = Check.documentText();
        String source = Check.sourceText();
        String head = "public final class CountedHouse {";
        int from = document.indexOf(head) + head.length();
        int end = document.indexOf("}", from);
        Check.yes("the source has the head", source.contains(head));
        int lines = 0;
        for (String line : document.substring(from, Math.max(from, end)).split(";")) {
            String wanted = line.trim();
            if (!wanted.isEmpty()) {
                lines++;
                boolean isConstant = wanted.contains("=");
                Check.yes("the source has " + wanted, source.contains(wanted + (isConstant ? ";" : " {")));
            }
        }
        Check.eq("lines of the face", lines, 18);
    }

    private static void partsOfRequests() {
        // Three of one KEY by one CLIENT, one of each KIND, and one of another CLIENT and KEY.
        CountedHouse h = new CountedHouse();
        h.request(2, 1, 3, -8);
        h.request(2, 2, 3, 10);
        h.request(2, 0, 3, 99);
        h.request(0, 2, 1, 4);
        int[] clients = {2, 2, 2, 0};
        int[] own = {1, 2, 3, 1};
        int[] results = {0, 2, 2, 4};
        for (int r = 0; r < 4; r++) {
            Check.eq("client", h.told(r, 0), clients[r]);
            Check.eq("own number", h.told(r, 1), own[r]);
            h.bring(r, 0);
            h.send(0, r + 1, 1);
            Check.eq("result of " + r, h.result(1, r), results[r]);
        }
        mapIs("at last", h, 1, 0, 4, 0, 2);
    }

    private static void everybodyCanAsk() {
        CountedHouse h = new CountedHouse();
        h.request(0, 0, 0, 0);
        Check.refuses("not certified yet", INDEX, () -> h.message(0, 1, 0));
        h.bring(0, 0);
        isMessage("of a true one, brought to nobody", h, 0, 1, PREPARE, 0, 0, 0, 0);
        Check.refuses("not certified yet", INDEX, () -> h.message(0, 2, 0));
        h.lie(2);
        Check.refuses("not certified yet", INDEX, () -> h.message(2, 1, 0));
        h.certify(2, CHANGE, 9, 0, 0);
        isMessage("of a liar, brought to nobody", h, 2, 1, CHANGE, 9, 0, 0, 0);
    }

    private static void fourKinds() {
        CountedHouse h = new CountedHouse();
        h.request(0, 0, 0, 0);
        h.request(1, 0, 0, 0);
        h.bring(1, 0);
        h.send(0, 1, 1);
        openViewOne(h);
        h.bring(0, 1);
        sendRest(h, 1, 2);
        isMessage("PREPARE: VIEW 0, REQUEST 1", h, 0, 1, PREPARE, 0, 1, 0, 0);
        isMessage("COMMIT: VIEW 0, number 1 of its LEADER", h, 1, 1, COMMIT, 0, 1, 0, 0);
        isMessage("CHANGE: VIEW 1", h, 1, 2, CHANGE, 1, 0, 0, 0);
        isMessage("CHANGE: VIEW 1", h, 2, 1, CHANGE, 1, 0, 0, 0);
        isMessage("NEW: VIEW 1, number 2 of SERVER 1, number 1 of SERVER 2", h, 1, 3, NEW, 1, 7, 5, 0);
        isMessage("COMMIT: VIEW 1, number 3 of its LEADER", h, 2, 2, COMMIT, 1, 3, 0, 0);
        isMessage("PREPARE: VIEW 1, REQUEST 0", h, 1, 4, PREPARE, 1, 0, 0, 0);
        isMessage("COMMIT: VIEW 1, number 4 of its LEADER", h, 2, 3, COMMIT, 1, 4, 0, 0);
    }

    private static void voidByWhatIsCertified() {
        // Nothing is ever sent: neither the liar nor anybody else was brought what its MESSAGES tell.
        CountedHouse h = new CountedHouse();
        h.request(0, 0, 0, 0);
        h.bring(0, 0);
        h.lie(2);
        h.certify(2, COMMIT, 0, 1, 0);
        bothLate(h, 0, 1);
        bothLate(h, 0, 1);
        says("0 in VIEW 2", h, 0, 2, 0, 3);
        says("1 in VIEW 2", h, 1, 2, 0, 2);
        h.certify(2, NEW, 2, 9, 7);
        h.certify(2, PREPARE, 2, 0, 0);
        isMessage("a COMMIT of what it was not brought", h, 2, 1, COMMIT, 0, 1, 0, 0);
        isMessage("a NEW of what it was not brought", h, 2, 2, NEW, 2, 9, 7, 0);
        isMessage("a PREPARE behind it", h, 2, 3, PREPARE, 2, 0, 0, 0);
        // Whoever READS them, and when: they are no more VOID by that, and no less.
        Check.eq("server 1 READS all", h.send(2, 3, 1) + h.send(2, 2, 1) + h.send(2, 1, 1), 3);
        says("server 1 in VIEW 2", h, 1, 2, 1, 4, 2);
        historyIs("by the ROW (server 0 prepared it), and by the PREPARE", h, 1, 0, 0);
        for (int k = 1; k <= 3; k++) {
            Check.eq("as ahead", h.message(2, k, 4), 0);
        }
    }

    private static void rowOfTheTwo() {
        // Server 0 prepared REQUEST 0, nobody committed it: it stands in the ROW if server 0 is one of the two.
        int[][] pairs = {{6, 5}, {5, 6}, {6, 4}, {4, 6}, {4, 5}, {5, 4}};
        for (int i = 0; i < pairs.length; i++) {
            CountedHouse h = new CountedHouse();
            h.request(0, 0, 0, 0);
            h.bring(0, 0);
            h.lie(1);
            bothLate(h, 0, 2);
            h.certify(1, CHANGE, 1, 0, 0);
            h.certify(1, NEW, 1, pairs[i][0], pairs[i][1]);
            isMessage("pairs " + i, h, 1, 2, NEW, 1, pairs[i][0], pairs[i][1], 0);
            if (i < 4) {
                rowIs("with server 0", h, 1, 0);
            } else {
                rowIs("without server 0", h, 1);
            }
        }
    }

    private static void mapsAndHistoriesAreApart() {
        CountedHouse h = new CountedHouse();
        h.request(0, 1, 2, 6);
        h.request(1, 1, 0, 7);
        h.bring(0, 0);
        h.bring(1, 0);
        h.send(0, 1, 1);
        h.send(0, 1, 2);
        h.send(0, 2, 2);
        historyIs("none", h, 0);
        historyIs("one", h, 1, 0);
        historyIs("two", h, 2, 0, 1);
        mapIs("none", h, 0, 0, 0, 0, 0);
        mapIs("one", h, 1, 0, 0, 6, 0);
        mapIs("two", h, 2, 7, 0, 6, 0);
    }

    private static void broughtStaysBrought() {
        CountedHouse h = new CountedHouse();
        for (int r = 0; r < 4; r++) {
            h.request(0, 2, 0, 1);
            h.bring(r, 0);
        }
        Check.eq("the fourth", h.send(0, 4, 1), 0);
        Check.eq("the third", h.send(0, 3, 1), 0);
        Check.eq("the third again", h.send(0, 3, 1), 0);
        Check.eq("the first", h.send(0, 1, 1), 1);
        Check.eq("to another one: each has its own", h.send(0, 2, 2), 0);
        Check.eq("the second, and those behind it", h.send(0, 2, 1), 3);
        Check.eq("one that was READ", h.send(0, 4, 1), 0);
        says("all four", h, 1, 0, 1, 4, 4, 0, NONE, 5, 5, 1, 4);
        says("none", h, 2, 0, 1, 0, 0, 0, NONE, 1, 1, 1, 0);
    }

    private static void readsOfBothOthers() {
        // One other's gap does not hold up the other one.
        CountedHouse h = new CountedHouse();
        for (int r = 0; r < 2; r++) {
            h.request(0, 2, 0, 1);
            h.bring(r, 0);
            h.send(0, r + 1, 1);
        }
        Check.eq("ahead of its turn", h.send(0, 2, 2), 0);
        Check.eq("of the other one", h.send(1, 1, 2), 1);
        Check.eq("of the other one", h.send(1, 2, 2), 1);
        says("two of server 1, none of server 0", h, 2, 0, 1, 0, 0, 0, NONE, 1, 3, 1);
        Check.eq("then both", h.send(0, 1, 2), 2);
        says("all", h, 2, 0, 1, 2, 2, 0, NONE, 3, 3, 3);
    }

    private static void behindThePrepares() {
        CountedHouse h = new CountedHouse();
        for (int r = 0; r < 3; r++) {
            h.request(r, 2, 0, 1);
        }
        h.bring(2, 0);
        h.bring(0, 0);
        h.bring(1, 0);
        h.lie(2);
        h.certify(2, COMMIT, 0, 3, 0);
        h.certify(2, COMMIT, 0, 2, 0);
        h.certify(2, COMMIT, 0, 1, 0);
        h.send(2, 1, 0);
        historyIs("the last one has its votes", h, 0);
        h.send(2, 2, 0);
        historyIs("the last two have theirs", h, 0);
        h.send(2, 3, 0);
        historyIs("in order of the PREPARES", h, 0, 2, 0, 1);
    }

    private static void broughtInEachView() {
        CountedHouse h = new CountedHouse();
        h.request(0, 2, 0, 1);
        Check.eq("in VIEW 0", h.bring(0, 0), 1);
        Check.eq("in VIEW 0 again", h.bring(0, 0), 0);
        h.send(0, 1, 1);
        openViewOne(h);
        historyIs("it came over", h, 1, 0);
        Check.eq("in VIEW 1, though it was done", h.bring(0, 1), 1);
        Check.eq("in VIEW 1 again", h.bring(0, 1), 0);
        isMessage("in VIEW 1", h, 1, 4, PREPARE, 1, 0, 0, 0);
        sendRest(h, 1, 2);
        historyIs("twice in the HISTORY", h, 2, 0, 0);
        Check.eq("once with effect", h.state(2, 9), 1);
    }

    private static void askingIsBroughtOnce() {
        CountedHouse h = new CountedHouse();
        h.late(1);
        Check.eq("server 0 doesn't know yet", h.state(0, 5), NONE);
        Check.eq("to server 0", h.ask(1, 0), 0);
        Check.eq("that is not its own", h.state(0, 5), NONE);
        Check.eq("again: still one of three", h.ask(1, 0), 0);
        says("still in VIEW 0", h, 0, 0, 1, 0);
        Check.eq("server 2 was brought nothing", h.late(2), 1);
        says("still in VIEW 0", h, 2, 0, 1, 0);
        Check.eq("the second of three", h.ask(2, 0), 1);
        says("in VIEW 1, without having asked", h, 0, 1, 0, 1, 0, 0, NONE);
        Check.eq("an older one does no more", h.ask(1, 0), 0);
        says("one CHANGE", h, 0, 1, 0, 1);
    }

    private static void liarDoesWhatItIsTold() {
        CountedHouse h = new CountedHouse();
        h.request(0, 1, 0, 5);
        h.lie(1);
        Check.eq("asks nothing by itself", h.late(1), NONE);
        Check.eq("certifies nothing by itself", h.bring(0, 0) + h.send(0, 1, 1), 1);
        Check.eq("replies nothing by itself", h.reply(1, 0), NONE);
        Check.eq("certifies what it is told", h.certify(1, COMMIT, 0, 1, 0), 1);
        Check.eq("which is a vote like others", h.send(1, 1, 0), 1);
        historyIs("a vote", h, 0, 0);
        h.askFor(1, 4);
        Check.eq("asks what it is told", h.state(1, 5), 4);
        Check.eq("which is an ASKING like others", h.ask(1, 2) + h.late(2), 1);
        says("server 2 went on", h, 2, 1, 0, 1);
        h.replyWith(1, 0, 0);
        Check.eq("replies what it is told", h.reply(1, 0), 0);
        Check.eq("which is a REPLY like others", h.reply(0, 0), 1);
    }

    private static void nothingDoneWhileNotActive() {
        CountedHouse h = new CountedHouse();
        h.request(0, 1, 0, 5);
        h.bring(0, 0);
        h.send(0, 1, 1);
        h.late(0);
        h.late(2);
        Check.eq("server 0 goes to VIEW 1", h.ask(2, 0), 1);
        Check.eq("the vote comes too late", h.send(1, 1, 0), 1);
        says("not ACTIVE", h, 0, 1, 0, 2, 0, 0, 1, 3, 2, 1, 0);
        historyIs("nothing done", h, 0);
        Check.eq("no REPLY", h.reply(0, 0), NONE);
        // Once VIEW 1 is open, it is done there.
        h.late(1);
        h.ask(0, 1);
        h.send(0, 1, 1);
        Check.eq("server 1 opens VIEW 1", h.send(0, 2, 1), 1);
        sendRest(h, 1, 0);
        historyIs("done by the ROW", h, 0, 0);
    }

    private static void rowAheadOfPrepares() {
        CountedHouse h = new CountedHouse();
        h.request(0, 2, 0, 1);
        h.request(1, 2, 0, 10);
        h.bring(0, 0);
        h.send(0, 1, 1);
        bothLate(h, 1, 2);
        h.send(2, 1, 1);
        Check.eq("in VIEW 1", h.bring(1, 1), 1);
        // Of 1: COMMIT, CHANGE, NEW, PREPARE. Server 0 did nothing so far.
        for (int k = 4; k >= 2; k--) {
            h.send(1, k, 0);
        }
        historyIs("nothing READ", h, 0);
        Check.eq("all four at once", h.send(1, 1, 0), 4);
        historyIs("the ROW, then the PREPARE", h, 0, 0, 1);
        Check.eq("result of the first", h.result(0, 0), 1);
        Check.eq("result of the second", h.result(0, 1), 11);
    }

    private static void anyOtherVoteWillDo() {
        for (int voter = 1; voter <= 2; voter++) {
            CountedHouse h = new CountedHouse();
            h.request(0, 2, 0, 1);
            h.bring(0, 0);
            h.send(0, 1, voter);
            historyIs("the LEADER without a vote", h, 0);
            h.send(voter, 1, 0);
            historyIs("the LEADER with the vote of " + voter, h, 0, 0);
            h.send(0, 1, 3 - voter);
            h.send(3 - voter, 1, 0);
            historyIs("a third vote does no more", h, 0, 0);
        }
    }

    private static void endOfHistory() {
        CountedHouse h = new CountedHouse();
        h.request(0, 2, 0, 1);
        h.request(0, 2, 0, 2);
        h.request(1, 2, 0, 4);
        int[] order = {2, 1, 0};
        for (int i = 0; i < 3; i++) {
            h.bring(order[i], 0);
            h.send(0, i + 1, 1);
            Check.eq("at the end", h.history(1, i), order[i]);
            Check.eq("none behind it", h.history(1, i + 1), NONE);
        }
        historyIs("as they were done, with no effect too", h, 1, 2, 1, 0);
        Check.eq("own number 1 behind own number 2: no effect", h.state(1, 9), 6);
        Check.eq("and no REPLY", h.reply(1, 0), NONE);
    }

    private static void mapAndReply() {
        CountedHouse h = new CountedHouse();
        h.request(0, 1, 1, 20);
        h.request(1, 2, 1, 3);
        h.request(2, 0, 1, 0);
        h.request(3, 1, 1, -1);
        int[] results = {0, 23, 23, 23};
        int[] values = {20, 23, 23, -1};
        for (int r = 0; r < 4; r++) {
            h.bring(r, 0);
            Check.eq("no REPLY ahead", h.reply(2, r), NONE);
            h.send(0, r + 1, 2);
            Check.eq("the MAP behind " + r, h.state(2, 10), values[r]);
            Check.eq("the REPLY to " + r, h.result(2, r), results[r]);
            Check.eq("brought", h.reply(2, r), 0);
        }
        mapIs("other KEYS", h, 2, 0, -1, 0, 0);
    }

    private static void lookedAtBehindEach() {
        // A full server can't vote for the NEW of VIEW 4 that it READS last: what was due ahead of it is done.
        CountedHouse h = new CountedHouse();
        for (int r = 0; r < 60; r++) {
            h.request(0, 2, 0, 1);
            h.bring(r, 0);
        }
        h.lie(2);
        h.askFor(2, 3);
        for (int s = 0; s < 2; s++) {
            h.ask(2, s);
            for (int w = 1; w <= 3; w++) {
                h.late(s);
            }
        }
        h.certify(2, CHANGE, 3, 0, 0);
        h.send(2, 1, 0);
        for (int r = 0; r < 36; r++) {
            h.bring(r, 0);
        }
        says("full", h, 0, 3, 1, 100, 0);
        says("not ACTIVE", h, 1, 3, 0, 3, 0);
        for (int k = 1; k <= 100; k++) {
            h.send(0, k, 1);
        }
        says("its CHANGES, a COMMIT of the NEW and of 36", h, 1, 3, 1, 40, 96);
        h.askFor(2, 4);
        h.ask(2, 1);
        h.late(1);
        h.certify(2, CHANGE, 4, 0, 0);
        h.send(2, 1, 1);
        Check.eq("server 1 opens VIEW 4", h.send(2, 2, 1), 1);
        says("VIEW 4", h, 1, 4, 1, 42, 96);
        for (int k = 42; k >= 2; k--) {
            h.send(1, k, 0);
        }
        historyIs("nothing READ", h, 0);
        Check.eq("all at once", h.send(1, 1, 0), 42);
        says("in VIEW 4, full", h, 0, 4, 1, 100, 96, 0, 3, 101, 43, 2, 60);
        Check.eq("the last one done", h.history(0, 95), 35);
        rowIs("VIEW 4 begins with all of it", h, 4, rowOfNinetySix());
    }

    private static int[] rowOfNinetySix() {
        int[] row = new int[96];
        for (int k = 0; k < 96; k++) {
            row[k] = k % 60;
        }
        return row;
    }

    private static void readAtOnce() {
        CountedHouse h = new CountedHouse();
        h.request(0, 1, 0, 5);
        h.bring(0, 0);
        Check.eq("brought", h.send(0, 1, 1), 1);
        says("READ, committed, done", h, 1, 0, 1, 1, 1, 0, NONE, 2, 2, 1, 5);
        Check.eq("brought", h.send(1, 1, 2), 1);
        says("READ", h, 2, 0, 1, 0, 0, 0, NONE, 1, 2, 1, 0);
        says("the sender is as it was", h, 0, 0, 1, 1, 0, 0, NONE, 2, 1, 1, 0);
    }

    private static void replyIsBrought() {
        CountedHouse h = new CountedHouse();
        h.request(0, 1, 0, 5);
        h.bring(0, 0);
        h.send(0, 1, 1);
        h.send(0, 1, 2);
        Check.eq("both have a REPLY, none was brought", h.told(0, 2), 0);
        Check.eq("one", h.reply(1, 0), 0);
        Check.eq("the same once more", h.reply(1, 0), 0);
        Check.eq("not answered by one twice", h.told(0, 2), 0);
        Check.eq("another one's", h.reply(2, 0), 1);
        Check.eq("answered", h.told(0, 2), 1);
        Check.eq("and again", h.reply(1, 0), 1);
        Check.eq("server 0 has none, answered or not", h.reply(0, 0), NONE);
    }

    private static void certifyTellsItsNumber() {
        CountedHouse h = new CountedHouse();
        h.request(0, 0, 0, 0);
        h.lie(2);
        for (int k = 1; k <= 100; k++) {
            int kind = k % 4;
            Check.eq("its number", h.certify(2, kind, k % 31, 0, 0), k);
            Check.eq("its kind", h.message(2, k, 0), kind);
            Check.eq("its VIEW", h.message(2, k, 1), k % 31);
        }
        Check.eq("no more", h.certify(2, CHANGE, 0, 0, 0), NONE);
    }

    private static void stateOfEachServer() {
        CountedHouse h = new CountedHouse();
        h.request(0, 1, 0, 5);
        h.request(0, 1, 1, 6);
        h.request(0, 1, 2, 7);
        h.request(0, 1, 3, 8);
        for (int r = 0; r < 4; r++) {
            h.bring(r, 0);
            h.send(0, r + 1, 1);
        }
        h.send(1, 1, 0);
        h.send(1, 2, 0);
        says("server 0", h, 0, 0, 1, 4, 2, 0, NONE, 5, 3, 1, 5, 6, 0, 0);
        says("server 1", h, 1, 0, 1, 4, 4, 0, NONE, 5, 5, 1, 5, 6, 7, 8);
        says("server 2", h, 2, 0, 1, 0, 0, 0, NONE, 1, 1, 1, 0, 0, 0, 0);
        openViewOne(h);
        says("server 1", h, 1, 1, 1, 6, 4, 0, 1, 5, 7, 3, 5, 6, 7, 8);
        says("server 2", h, 2, 1, 1, 2, 4, 0, 1, 1, 7, 3, 5, 6, 7, 8);
        h.late(2);
        h.late(1);
        h.ask(1, 2);
        h.lie(2);
        h.askFor(2, 9);
        h.certify(2, CHANGE, 9, 0, 0);
        says("server 2 has LIED", h, 2, 2, 0, 4, 4, 1, 9, 1, 7, 4, 5, 6, 7, 8);
        says("server 1", h, 1, 1, 1, 6, 4, 0, 2, 5, 7, 3, 5, 6, 7, 8);
    }

    private static void messagesAsCertified() {
        CountedHouse h = new CountedHouse();
        h.request(0, 0, 0, 0);
        h.request(0, 0, 0, 0);
        h.lie(1);
        int[][] given = {{PREPARE, 1, 1, 0, 1}, {COMMIT, 29, 200, 0, 1}, {CHANGE, 1, 0, 0, 0}, {NEW, 1, 10, 600, 1},
            {NEW, 30, 600, 599, 1}, {COMMIT, 0, 0, 0, 1}, {CHANGE, 0, 0, 0, 0}};
        for (int i = 0; i < given.length; i++) {
            int[] g = given[i];
            Check.eq("number", h.certify(1, g[0], g[1], g[2], g[3]), i + 1);
            isMessage("as certified", h, 1, i + 1, g);
        }
        // Then what is good by now, with the same counter: not VOID.
        h.late(0);
        h.askFor(1, 1);
        Check.eq("server 0 goes to VIEW 1", h.ask(1, 0), 1);
        Check.eq("number", h.certify(1, NEW, 1, 3, 10), 8);
        isMessage("CHANGES of 0 and of itself", h, 1, 8, NEW, 1, 3, 10, 0);
        Check.eq("number", h.certify(1, PREPARE, 1, 1, 0), 9);
        isMessage("behind the OPENING", h, 1, 9, PREPARE, 1, 1, 0, 0);
        for (int i = 0; i < given.length; i++) {
            isMessage("they never change", h, 1, i + 1, given[i]);
        }
    }

    private static void lookingChangesNothing() {
        CountedHouse h = new CountedHouse();
        h.request(0, 1, 0, 5);
        h.bring(0, 0);
        h.send(0, 1, 1);
        openViewOne(h);
        long before = picture(h);
        for (int s = 0; s < 3; s++) {
            h.history(s, 0);
            h.result(s, 0);
            h.state(s, 5);
        }
        h.row(1, 0);
        h.row(2, 0);
        h.told(0, 2);
        h.message(1, 3, 4);
        Check.yes("as ahead", picture(h) == before);
        Check.eq("not answered", h.told(0, 2), 0);
    }
}
