/** Part 2 of the document (VOID, OPENINGS, ROWS): each sentence that names a bound, with its test. */
public final class VoidBoundsTests extends HouseSteps {
    // In beforeOpening() the first MESSAGE of each SERVER is its CHANGE to VIEW 1: as a NEW tells them.
    private static final int OF_0 = 3;
    private static final int OF_1 = 4;
    private static final int OF_2 = 5;

    public static void main(String[] args) {
        prepares();
        openings();
        news();
        commits();
        behindChanges();
        rows();
        Check.end("VoidBoundsTests");
    }

    private static void prepares() {
        Check.sentence("a PREPARE of VIEW w is VOID, unless its SERVER is w's LEADER",
                VoidBoundsTests::prepareOfNoLeader);
        Check.sentence("and w is 0 or it has an OPENING of w with a lower number",
                VoidBoundsTests::prepareOfViewNought);
        Check.sentence("and w is 0 or it has an OPENING of w with a lower number",
                VoidBoundsTests::prepareAheadOfOpening);
    }

    private static void openings() {
        Check.sentence("The OPENING of w (above 0) is the LEADER's first NEW of w that is not VOID.",
                VoidBoundsTests::openingBehindVoidNews);
        Check.sentence("The OPENING of w (above 0) is the LEADER's first NEW of w that is not VOID.",
                VoidBoundsTests::secondNewIsNoOpening);
    }

    private static void news() {
        Check.sentence("A NEW of w is VOID, unless its SERVER is w's LEADER", VoidBoundsTests::newOfNoLeader);
        Check.sentence("w is above 0", VoidBoundsTests::newOfViewNought);
        Check.sentence("its two SERVERS are not the same", VoidBoundsTests::newOfOneServer);
        Check.sentence("both numbers are those of CHANGES to w of these", VoidBoundsTests::newNumbers);
        Check.sentence("both numbers are those of CHANGES to w of these", VoidBoundsTests::newOfOtherMessages);
        Check.sentence("CHANGES to w of these, certified ahead of it.", VoidBoundsTests::newAheadOfChange);
    }

    private static void commits() {
        Check.sentence("A COMMIT of w is VOID, unless its SERVER is not w's LEADER",
                VoidBoundsTests::commitOfLeader);
        Check.sentence("its number is that of a PREPARE of w of the LEADER that is not VOID",
                VoidBoundsTests::commitNumbers);
        Check.sentence("its number is that of a PREPARE of w of the LEADER that is not VOID",
                VoidBoundsTests::commitOfAnotherView);
        Check.sentence("its number is that of a PREPARE of w of the LEADER that is not VOID",
                VoidBoundsTests::voidPrepareIsNotCommitted);
        Check.sentence("or of the OPENING of w, certified ahead of it", VoidBoundsTests::commitOfOpening);
        Check.sentence("or of the OPENING of w, certified ahead of it", VoidBoundsTests::openingOfNumberOne);
        Check.sentence("or of the OPENING of w, certified ahead of it", VoidBoundsTests::commitAhead);
    }

    private static void behindChanges() {
        String besides = "a PREPARE, COMMIT, NEW of w is VOID, if its SERVER has a CHANGE to a VIEW above w with a "
                + "lower number";
        Check.sentence(besides, VoidBoundsTests::prepareBehindChange);
        Check.sentence(besides, VoidBoundsTests::commitBehindChange);
        Check.sentence(besides, VoidBoundsTests::newBehindChange);
        Check.sentence(besides, VoidBoundsTests::greatestChangeCounts);
        Check.sentence("CHANGES are never VOID.", VoidBoundsTests::changesNeverVoid);
        Check.sentence("(So a MESSAGE is VOID, or not, from when it is certified on.)", VoidBoundsTests::staysSo);
    }

    private static void rows() {
        Check.sentence("ROW of VIEW 0: none.", VoidBoundsTests::rowOfViewNought);
        Check.sentence("(0, if there is none)", VoidBoundsTests::rowOfNothing);
        Check.sentence("u being the greatest VIEW below w", VoidBoundsTests::rowOfViewsBelowAlone);
        Check.sentence("of which i has a PREPARE, COMMIT or OPENING with a number below a that is not VOID",
                VoidBoundsTests::rowWithoutVoidOnes);
        Check.sentence("of which i has a PREPARE, COMMIT or OPENING with a number below a that is not VOID",
                VoidBoundsTests::rowOnAnOpeningAlone);
        Check.sentence("or j one below b", VoidBoundsTests::rowByTheSecond);
        Check.sentence("the ROW of u, and behind it the REQUESTS of those PREPARES of u",
                VoidBoundsTests::rowBehindRow);
        Check.sentence("in order of their numbers", VoidBoundsTests::rowInOrderEachOnce);
        Check.sentence("in order of their numbers", VoidBoundsTests::rowOfTheHundredth);
        Check.sentence("(when i or j is u's LEADER)", VoidBoundsTests::rowOfLeader);
        Check.sentence("or that such a COMMIT of i or j tells", VoidBoundsTests::rowWithoutTheThird);
        Check.sentence("or that such a COMMIT of i or j tells", VoidBoundsTests::rowsDoNotMix);
    }

    /** Server 1 lies; servers 0 and 2 went to VIEW 1, which it leads, and it has a CHANGE to it too. */
    private static CountedHouse beforeOpening() {
        CountedHouse h = new CountedHouse();
        h.request(0, 1, 0, 5);
        h.lie(1);
        bothLate(h, 0, 2);
        h.certify(1, CHANGE, 1, 0, 0);
        return h;
    }

    /** Certifies a MESSAGE of a liar: whether it is VOID. */
    private static int voidOf(CountedHouse h, int liar, int kind, int view, int a, int b) {
        return h.message(liar, h.certify(liar, kind, view, a, b), 4);
    }

    private static void prepareOfNoLeader() {
        for (int liar = 0; liar < 3; liar++) {
            CountedHouse h = new CountedHouse();
            h.request(0, 0, 0, 0);
            h.lie(liar);
            Check.eq("VIEW 0 by " + liar, voidOf(h, liar, PREPARE, 0, 0, 0), liar == 0 ? 0 : 1);
        }
        // VIEW 1 has an OPENING of its LEADER, server 1: no other one prepares in it.
        CountedHouse h = new CountedHouse();
        h.request(0, 0, 0, 0);
        openViewOne(h);
        h.lie(2);
        Check.eq("VIEW 1 by server 2", voidOf(h, 2, PREPARE, 1, 0, 0), 1);
    }

    private static void prepareOfViewNought() {
        CountedHouse h = new CountedHouse();
        h.request(0, 0, 0, 0);
        h.lie(0);
        Check.eq("VIEW 0 needs no OPENING", voidOf(h, 0, PREPARE, 0, 0, 0), 0);
        Check.eq("VIEW 3 needs one", voidOf(h, 0, PREPARE, 3, 0, 0), 1);
        Check.eq("VIEW 30 needs one", voidOf(h, 0, PREPARE, 30, 0, 0), 1);
        Check.eq("VIEW 0 again", voidOf(h, 0, PREPARE, 0, 0, 0), 0);
    }

    private static void prepareAheadOfOpening() {
        CountedHouse h = beforeOpening();
        Check.eq("ahead of all NEWS", voidOf(h, 1, PREPARE, 1, 0, 0), 1);
        Check.eq("a VOID NEW", voidOf(h, 1, NEW, 1, OF_0, OF_0), 1);
        Check.eq("behind a VOID NEW", voidOf(h, 1, PREPARE, 1, 0, 0), 1);
        Check.eq("the OPENING", voidOf(h, 1, NEW, 1, OF_0, OF_2), 0);
        Check.eq("behind it", voidOf(h, 1, PREPARE, 1, 0, 0), 0);
        Check.eq("of VIEW 4, which it leads too", voidOf(h, 1, PREPARE, 4, 0, 0), 1);
        Check.eq("the one ahead", h.message(1, 2, 4), 1);
        Check.eq("the one behind the VOID NEW", h.message(1, 4, 4), 1);
    }

    private static void openingBehindVoidNews() {
        CountedHouse h = beforeOpening();
        voidOf(h, 1, NEW, 1, OF_0, OF_0);
        voidOf(h, 1, NEW, 1, 0, OF_2);
        Check.eq("the first that is not VOID", voidOf(h, 1, NEW, 1, OF_2, OF_0), 0);
        for (int k = 1; k <= 3; k++) {
            Check.eq("READ", h.send(1, k, 0), 1);
            says("VOID ones do nothing", h, 0, 1, 0, 1);
        }
        Check.eq("READ", h.send(1, 4, 0), 1);
        says("it opens", h, 0, 1, 1, 2);
        isMessage("and is committed", h, 0, 2, COMMIT, 1, 4, 0, 0);
    }

    private static void secondNewIsNoOpening() {
        // Server 0 prepared REQUEST 0 in VIEW 0: the NEW of 1 and 2 leaves it out, the NEW of 0 and 2 does not.
        CountedHouse h = new CountedHouse();
        h.request(0, 1, 0, 5);
        h.bring(0, 0);
        h.lie(1);
        bothLate(h, 0, 2);
        h.certify(1, CHANGE, 1, 0, 0);
        Check.eq("the first", voidOf(h, 1, NEW, 1, OF_1, OF_2), 0);
        Check.eq("the second", voidOf(h, 1, NEW, 1, 2 * 3, OF_2), 0);
        rowIs("the ROW is told by the first", h, 1);
        for (int k = 1; k <= 3; k++) {
            h.send(1, k, 2);
        }
        says("committed once", h, 2, 1, 1, 2, 0, 0, 1, 1, 4, 3);
        isMessage("the first is", h, 2, 2, COMMIT, 1, 2, 0, 0);
    }

    private static void newOfNoLeader() {
        CountedHouse h = new CountedHouse();
        h.lie(2);
        bothLate(h, 0, 1);
        Check.eq("VIEW 1 by server 2", voidOf(h, 2, NEW, 1, OF_0, OF_1), 1);
        CountedHouse g = new CountedHouse();
        g.lie(0);
        bothLate(g, 1, 2);
        Check.eq("VIEW 1 by server 0", voidOf(g, 0, NEW, 1, OF_1, OF_2), 1);
        CountedHouse f = new CountedHouse();
        f.lie(1);
        bothLate(f, 0, 2);
        Check.eq("VIEW 1 by server 1", voidOf(f, 1, NEW, 1, OF_0, OF_2), 0);
    }

    private static void newOfViewNought() {
        CountedHouse h = new CountedHouse();
        h.lie(0);
        h.certify(0, CHANGE, 0, 0, 0);
        Check.eq("of its own CHANGE", voidOf(h, 0, NEW, 0, OF_0, OF_0), 1);
        Check.eq("of its own CHANGE and none", voidOf(h, 0, NEW, 0, OF_0, 1), 1);
        bothLate(h, 1, 2);
        Check.eq("of CHANGES to VIEW 1", voidOf(h, 0, NEW, 0, OF_1, OF_2), 1);
        Check.eq("of both", voidOf(h, 0, NEW, 0, OF_0, OF_2), 1);
    }

    private static void newOfOneServer() {
        CountedHouse h = beforeOpening();
        h.certify(1, CHANGE, 1, 0, 0);
        Check.eq("its own two", voidOf(h, 1, NEW, 1, 4, 7), 1);
        Check.eq("its own one", voidOf(h, 1, NEW, 1, 4, 4), 1);
        Check.eq("another's one", voidOf(h, 1, NEW, 1, OF_2, OF_2), 1);
        Check.eq("two SERVERS", voidOf(h, 1, NEW, 1, 7, OF_2), 0);
    }

    private static void newNumbers() {
        CountedHouse h = beforeOpening();
        // Number 0 of each, one more than each has, and the greatest that can be told.
        for (int x : new int[] {0, 1, 2, 2 * 3, 3 * 3 + 1, 2 * 3 + 2, 598, 599, 600}) {
            int good = x % 3 == 0 ? OF_2 : OF_0;
            Check.eq("a " + x, voidOf(h, 1, NEW, 1, x, good), 1);
            Check.eq("b " + x, voidOf(h, 1, NEW, 1, good, x), 1);
        }
        Check.eq("good ones", voidOf(h, 1, NEW, 1, OF_2, OF_1), 0);
    }

    private static void newOfOtherMessages() {
        CountedHouse h = new CountedHouse();
        h.request(0, 1, 0, 5);
        h.bring(0, 0);
        h.send(0, 1, 2);
        h.lie(1);
        bothLate(h, 0, 2);
        h.certify(1, CHANGE, 2, 0, 0);
        h.certify(1, CHANGE, 0, 0, 0);
        h.certify(1, CHANGE, 4, 0, 0);
        // Their second ones are the CHANGES to VIEW 1; the first of 0 is a PREPARE, of 2 a COMMIT.
        Check.eq("of a PREPARE", voidOf(h, 1, NEW, 4, OF_0, 10), 1);
        Check.eq("of a COMMIT", voidOf(h, 1, NEW, 4, 10, OF_2), 1);
        Check.eq("of CHANGES to a lower VIEW", voidOf(h, 1, NEW, 4, 6, 8), 1);
        Check.eq("of one such", voidOf(h, 1, NEW, 4, 10, 8), 1);
        CountedHouse g = beforeOpening();
        g.certify(1, CHANGE, 0, 0, 0);
        Check.eq("of a CHANGE to VIEW 0", voidOf(g, 1, NEW, 1, 7, OF_2), 1);
        Check.eq("of itself", voidOf(g, 1, NEW, 1, 4 * 3 + 1, OF_2), 1);
        Check.eq("of a NEW", voidOf(g, 1, NEW, 1, 4 * 3 + 1, OF_2), 1);
        Check.eq("of CHANGES to VIEW 1", voidOf(g, 1, NEW, 1, OF_1, OF_2), 0);
    }

    private static void newAheadOfChange() {
        CountedHouse h = new CountedHouse();
        h.lie(1);
        h.certify(1, CHANGE, 1, 0, 0);
        Check.eq("the other one's comes later", voidOf(h, 1, NEW, 1, OF_1, OF_2), 1);
        Check.eq("its own comes later", voidOf(h, 1, NEW, 1, 4 * 3 + 1, OF_2), 1);
        h.certify(1, CHANGE, 1, 0, 0);
        bothLate(h, 0, 2);
        Check.eq("both are there by now", voidOf(h, 1, NEW, 1, 4 * 3 + 1, OF_2), 0);
        Check.eq("what was VOID stays so", h.message(1, 2, 4), 1);
        Check.eq("what was VOID stays so", h.message(1, 3, 4), 1);
    }

    private static void commitOfLeader() {
        CountedHouse h = new CountedHouse();
        h.request(0, 1, 0, 5);
        h.bring(0, 0);
        h.lie(0);
        Check.eq("of its own PREPARE", voidOf(h, 0, COMMIT, 0, 1, 0), 1);
        CountedHouse g = new CountedHouse();
        openViewOne(g);
        g.lie(1);
        Check.eq("of its own OPENING", voidOf(g, 1, COMMIT, 1, 2, 0), 1);
    }

    private static void commitNumbers() {
        CountedHouse h = new CountedHouse();
        for (int i = 0; i < 3; i++) {
            h.request(0, 1, 0, i);
            h.bring(i, 0);
        }
        h.lie(2);
        for (int number : new int[] {0, 4, 99, 100, 101, 199, 200}) {
            Check.eq("number " + number, voidOf(h, 2, COMMIT, 0, number, 0), 1);
        }
        for (int number = 3; number >= 1; number--) {
            Check.eq("number " + number, voidOf(h, 2, COMMIT, 0, number, 0), 0);
            Check.eq("again", voidOf(h, 2, COMMIT, 0, number, 0), 0);
        }
    }

    private static void commitOfAnotherView() {
        CountedHouse h = new CountedHouse();
        h.request(0, 1, 0, 5);
        h.bring(0, 0);
        h.lie(2);
        Check.eq("VIEW 0", voidOf(h, 2, COMMIT, 0, 1, 0), 0);
        Check.eq("VIEW 1, of another LEADER", voidOf(h, 2, COMMIT, 1, 1, 0), 1);
        Check.eq("VIEW 3, of the same LEADER", voidOf(h, 2, COMMIT, 3, 1, 0), 1);
        Check.eq("VIEW 30, of the same LEADER", voidOf(h, 2, COMMIT, 30, 1, 0), 1);
    }

    private static void voidPrepareIsNotCommitted() {
        CountedHouse h = new CountedHouse();
        h.request(0, 1, 0, 5);
        h.lie(0);
        Check.eq("of VIEW 3, without an OPENING", voidOf(h, 0, PREPARE, 3, 0, 0), 1);
        h.certify(0, CHANGE, 1, 0, 0);
        Check.eq("of VIEW 0, behind a CHANGE", voidOf(h, 0, PREPARE, 0, 0, 0), 1);
        for (int k = 1; k <= 3; k++) {
            Check.eq("READ", h.send(0, k, 1), 1);
        }
        says("and not committed", h, 1, 0, 1, 0, 0, 0, NONE, 4, 1, 1);
    }

    private static void commitOfOpening() {
        CountedHouse h = new CountedHouse();
        openViewOne(h);
        h.lie(2);
        isMessage("the OPENING", h, 1, 2, NEW, 1, OF_1, OF_2, 0);
        Check.eq("of the CHANGE ahead of it", voidOf(h, 2, COMMIT, 1, 1, 0), 1);
        Check.eq("of the OPENING", voidOf(h, 2, COMMIT, 1, 2, 0), 0);
        Check.eq("of what comes behind it", voidOf(h, 2, COMMIT, 1, 3, 0), 1);
        Check.eq("of VIEW 4, of the same LEADER", voidOf(h, 2, COMMIT, 4, 2, 0), 1);
        // No NEW opens VIEW 0: number 0 tells none there, nor in a VIEW that has no OPENING.
        Check.eq("none of VIEW 4", voidOf(h, 2, COMMIT, 4, 0, 0), 1);
        CountedHouse g = new CountedHouse();
        g.lie(2);
        Check.eq("none of VIEW 0", voidOf(g, 2, COMMIT, 0, 0, 0), 1);
    }

    private static void openingOfNumberOne() {
        // A liar may open VIEW 1 with the CHANGES of the other two, without one of its own.
        CountedHouse h = new CountedHouse();
        h.request(0, 1, 0, 5);
        h.lie(1);
        bothLate(h, 0, 2);
        Check.eq("its first", voidOf(h, 1, NEW, 1, OF_2, OF_0), 0);
        Check.eq("its second", voidOf(h, 1, PREPARE, 1, 0, 0), 0);
        h.send(1, 1, 0);
        h.send(1, 2, 0);
        isMessage("the COMMIT of number 1", h, 0, 2, COMMIT, 1, 1, 0, 0);
        isMessage("the COMMIT of number 2", h, 0, 3, COMMIT, 1, 2, 0, 0);
        historyIs("both have two votes", h, 0, 0);
    }

    private static void commitAhead() {
        CountedHouse h = new CountedHouse();
        h.request(0, 1, 0, 5);
        h.lie(2);
        Check.eq("ahead of the PREPARE", voidOf(h, 2, COMMIT, 0, 1, 0), 1);
        h.bring(0, 0);
        Check.eq("behind it", voidOf(h, 2, COMMIT, 0, 1, 0), 0);
        bothLate(h, 0, 1);
        h.send(0, 1, 1);
        Check.eq("ahead of the OPENING", voidOf(h, 2, COMMIT, 1, 2, 0), 1);
        h.send(0, 2, 1);
        isMessage("the OPENING", h, 1, 2, NEW, 1, OF_1, 6, 0);
        Check.eq("behind it", voidOf(h, 2, COMMIT, 1, 2, 0), 0);
        Check.eq("VOID as it was", h.message(2, 1, 4), 1);
        Check.eq("VOID as it was", h.message(2, 3, 4), 1);
    }

    private static void prepareBehindChange() {
        CountedHouse h = new CountedHouse();
        h.request(0, 1, 0, 5);
        h.lie(0);
        h.certify(0, CHANGE, 0, 0, 0);
        Check.eq("a CHANGE to its own VIEW", voidOf(h, 0, PREPARE, 0, 0, 0), 0);
        h.certify(0, CHANGE, 1, 0, 0);
        Check.eq("a CHANGE to the VIEW above", voidOf(h, 0, PREPARE, 0, 0, 0), 1);
        Check.eq("the one ahead of it", h.message(0, 2, 4), 0);
        // A CHANGE of another one does nothing to it.
        CountedHouse g = new CountedHouse();
        g.request(0, 1, 0, 5);
        g.lie(0);
        bothLate(g, 1, 2);
        Check.eq("CHANGES of others", voidOf(g, 0, PREPARE, 0, 0, 0), 0);
    }

    private static void commitBehindChange() {
        CountedHouse h = new CountedHouse();
        h.request(0, 1, 0, 5);
        h.bring(0, 0);
        openViewOne(h);
        h.lie(2);
        // Its first is a CHANGE to VIEW 1.
        Check.eq("a CHANGE to its own VIEW", voidOf(h, 2, COMMIT, 1, 2, 0), 0);
        Check.eq("a CHANGE to the VIEW above", voidOf(h, 2, COMMIT, 0, 1, 0), 1);
        h.certify(2, CHANGE, 2, 0, 0);
        Check.eq("a CHANGE to the VIEW above", voidOf(h, 2, COMMIT, 1, 2, 0), 1);
    }

    private static void newBehindChange() {
        CountedHouse h = beforeOpening();
        h.certify(1, CHANGE, 2, 0, 0);
        Check.eq("a CHANGE to the VIEW above", voidOf(h, 1, NEW, 1, OF_0, OF_2), 1);
        Check.eq("a CHANGE to the VIEW above", voidOf(h, 1, NEW, 1, OF_1, OF_2), 1);
        CountedHouse g = beforeOpening();
        g.certify(1, CHANGE, 0, 0, 0);
        Check.eq("CHANGES to its own VIEW and below", voidOf(g, 1, NEW, 1, OF_0, OF_2), 0);
        g.certify(1, CHANGE, 30, 0, 0);
        Check.eq("a CHANGE to the last VIEW", voidOf(g, 1, NEW, 1, OF_0, OF_2), 1);
        Check.eq("the one ahead of it", g.message(1, 3, 4), 0);
    }

    private static void greatestChangeCounts() {
        // A CHANGE to a lower VIEW behind it takes nothing back.
        CountedHouse h = beforeOpening();
        h.certify(1, CHANGE, 30, 0, 0);
        h.certify(1, CHANGE, 1, 0, 0);
        h.certify(1, CHANGE, 0, 0, 0);
        Check.eq("NEW", voidOf(h, 1, NEW, 1, OF_0, OF_2), 1);
        Check.eq("NEW of VIEW 28", voidOf(h, 1, NEW, 28, OF_0, OF_2), 1);
        CountedHouse g = new CountedHouse();
        g.request(0, 1, 0, 5);
        g.lie(0);
        g.certify(0, CHANGE, 1, 0, 0);
        g.certify(0, CHANGE, 0, 0, 0);
        Check.eq("PREPARE", voidOf(g, 0, PREPARE, 0, 0, 0), 1);
    }

    private static void changesNeverVoid() {
        CountedHouse h = new CountedHouse();
        h.lie(2);
        for (int view : new int[] {30, 30, 0, 1, 29, 2, 15}) {
            Check.eq("to " + view, voidOf(h, 2, CHANGE, view, 0, 0), 0);
        }
    }

    private static void staysSo() {
        CountedHouse h = beforeOpening();
        h.certify(1, PREPARE, 1, 0, 0);
        h.certify(1, NEW, 1, OF_0, OF_2);
        h.certify(1, PREPARE, 1, 0, 0);
        h.certify(1, CHANGE, 30, 0, 0);
        h.certify(1, PREPARE, 1, 0, 0);
        for (int k = 1; k <= 6; k++) {
            h.send(1, k, 0);
            h.send(1, k, 2);
        }
        int[] due = {0, 1, 0, 0, 0, 1};
        for (int k = 1; k <= 6; k++) {
            Check.eq("message " + k, h.message(1, k, 4), due[k - 1]);
        }
        Check.eq("one PREPARE was done", h.state(0, 3), 1);
        Check.eq("by both", h.state(2, 3), 1);
    }

    private static void rowOfViewNought() {
        CountedHouse h = new CountedHouse();
        h.request(0, 1, 0, 5);
        rowIs("at first", h, 0);
        h.bring(0, 0);
        h.send(0, 1, 1);
        h.send(1, 1, 0);
        historyIs("done", h, 0, 0);
        rowIs("as at first", h, 0);
        openViewOne(h);
        rowIs("VIEW 1", h, 1, 0);
        rowIs("as at first", h, 0);
    }

    private static void rowOfNothing() {
        CountedHouse h = new CountedHouse();
        openViewOne(h);
        rowIs("nobody certified anything ahead", h, 1);
        bothLate(h, 1, 2);
        sendRest(h, 1, 2);
        isMessage("VIEW 2 is open", h, 2, 4, NEW, 2, 11, 10, 0);
        rowIs("its ROW is that of VIEW 1", h, 2);
        // A PREPARE of server 0 that neither of the two committed.
        CountedHouse g = new CountedHouse();
        g.request(0, 1, 0, 5);
        g.bring(0, 0);
        openViewOne(g);
        rowIs("VIEW 0, and none of it", g, 1);
    }

    private static void rowOfViewsBelowAlone() {
        // The liar opens VIEW 1 after VIEW 2 was opened and it committed there.
        CountedHouse h = new CountedHouse();
        h.request(0, 1, 0, 5);
        h.request(1, 1, 0, 6);
        h.bring(0, 0);
        h.lie(1);
        bothLate(h, 0, 2);
        bothLate(h, 0, 2);
        sendRest(h, 0, 2);
        isMessage("VIEW 2 is open", h, 2, 3, NEW, 2, 8, 9, 0);
        Check.eq("and prepared in", h.bring(1, 2), 1);
        Check.eq("COMMIT of the OPENING", voidOf(h, 1, COMMIT, 2, 3, 0), 0);
        Check.eq("COMMIT of the PREPARE", voidOf(h, 1, COMMIT, 2, 4, 0), 0);
        h.certify(1, CHANGE, 1, 0, 0);
        Check.eq("NEW of VIEW 1", voidOf(h, 1, NEW, 1, 6, 3 * 3 + 1), 0);
        rowIs("VIEW 1 rests on VIEW 0 alone", h, 1, 0);
        rowIs("VIEW 2", h, 2, 0);
    }

    private static void rowWithoutVoidOnes() {
        CountedHouse h = new CountedHouse();
        h.request(0, 1, 0, 5);
        h.request(1, 1, 0, 6);
        h.request(2, 1, 0, 7);
        h.bring(0, 0);
        h.lie(2);
        Check.eq("a COMMIT ahead of its PREPARE", voidOf(h, 2, COMMIT, 0, 2, 0), 1);
        h.bring(1, 0);
        h.bring(2, 0);
        Check.eq("a good COMMIT", voidOf(h, 2, COMMIT, 0, 1, 0), 0);
        h.certify(2, CHANGE, 1, 0, 0);
        Check.eq("a COMMIT behind the CHANGE", voidOf(h, 2, COMMIT, 0, 3, 0), 1);
        h.askFor(2, 1);
        h.ask(2, 1);
        h.late(1);
        sendRest(h, 2, 1);
        Check.eq("opened", h.state(1, 1), 1);
        rowIs("the good one alone", h, 1, 0);
    }

    private static void rowOnAnOpeningAlone() {
        // The OPENING of VIEW 1 left REQUEST 1 out; VIEW 2 rests on that, not on server 0's PREPARES.
        CountedHouse h = new CountedHouse();
        h.request(0, 1, 0, 5);
        h.request(1, 1, 0, 6);
        h.bring(0, 0);
        h.bring(1, 0);
        h.send(0, 1, 1);
        bothLate(h, 1, 2);
        h.send(2, 1, 1);
        rowIs("VIEW 1", h, 1, 0);
        h.late(1);
        h.late(2);
        h.ask(1, 0);
        h.ask(2, 0);
        h.ask(2, 1);
        sendRest(h, 0, 2);
        sendRest(h, 1, 2);
        h.ask(1, 2);
        isMessage("of servers 0 and 1", h, 2, 4, NEW, 2, 9, 13, 0);
        rowIs("VIEW 2", h, 2, 0);
    }

    private static void rowByTheSecond() {
        // Server 2's CHANGE is READ first and has nothing ahead of it; server 1's COMMIT counts as well.
        CountedHouse h = new CountedHouse();
        h.request(0, 1, 0, 5);
        h.bring(0, 0);
        h.send(0, 1, 1);
        h.late(0);
        h.late(2);
        h.ask(0, 2);
        h.send(2, 1, 1);
        h.ask(0, 1);
        h.ask(2, 1);
        isMessage("the second is server 1", h, 1, 3, NEW, 1, 5, 7, 0);
        rowIs("what server 1 committed", h, 1, 0);
        CountedHouse g = new CountedHouse();
        g.request(0, 1, 0, 5);
        g.bring(0, 0);
        g.send(0, 1, 1);
        openViewOne(g);
        isMessage("the first is server 1", g, 1, 3, NEW, 1, 7, 5, 0);
        rowIs("what server 1 committed", g, 1, 0);
    }

    private static void rowBehindRow() {
        CountedHouse h = new CountedHouse();
        for (int i = 0; i < 3; i++) {
            h.request(i, 1, 0, i);
        }
        h.bring(2, 0);
        h.send(0, 1, 1);
        openViewOne(h);
        rowIs("VIEW 1", h, 1, 2);
        h.bring(1, 1);
        h.bring(0, 1);
        sendRest(h, 1, 2);
        bothLate(h, 1, 2);
        sendRest(h, 1, 2);
        rowIs("VIEW 2", h, 2, 2, 1, 0);
        rowIs("VIEW 1 as it was", h, 1, 2);
    }

    private static void rowInOrderEachOnce() {
        // Server 1 committed 1 and 2; the liar 3 and 2, backwards, 2 twice.
        CountedHouse h = new CountedHouse();
        for (int i = 0; i < 4; i++) {
            h.request(i, 1, 0, i);
        }
        for (int i = 3; i >= 0; i--) {
            h.bring(i, 0);
        }
        h.send(0, 1, 1);
        h.send(0, 2, 1);
        h.lie(2);
        h.certify(2, COMMIT, 0, 3, 0);
        h.certify(2, COMMIT, 0, 2, 0);
        h.certify(2, COMMIT, 0, 2, 0);
        h.certify(2, CHANGE, 1, 0, 0);
        h.askFor(2, 1);
        h.ask(2, 1);
        h.late(1);
        sendRest(h, 2, 1);
        rowIs("by their numbers", h, 1, 3, 2, 1);
        // The same REQUEST in two PREPARES of a liar comes twice.
        CountedHouse g = new CountedHouse();
        g.request(0, 1, 0, 5);
        g.lie(0);
        g.certify(0, PREPARE, 0, 0, 0);
        g.certify(0, PREPARE, 0, 0, 0);
        g.send(0, 1, 1);
        g.send(0, 2, 1);
        bothLate(g, 1, 2);
        g.send(2, 1, 1);
        rowIs("two PREPARES of one REQUEST", g, 1, 0, 0);
    }

    private static void rowOfLeader() {
        CountedHouse h = new CountedHouse();
        h.request(0, 1, 0, 5);
        h.request(1, 1, 0, 6);
        h.bring(0, 0);
        h.bring(1, 0);
        bothLate(h, 0, 1);
        sendRest(h, 0, 1);
        isMessage("of servers 1 and 0", h, 1, 2, NEW, 1, 4, 9, 0);
        rowIs("what server 0 prepared", h, 1, 0, 1);
    }

    private static void rowWithoutTheThird() {
        CountedHouse h = new CountedHouse();
        h.request(0, 1, 0, 5);
        h.request(1, 1, 0, 6);
        h.bring(0, 0);
        h.bring(1, 0);
        h.send(0, 1, 1);
        openViewOne(h);
        rowIs("what servers 1 and 2 know of", h, 1, 0);
    }

    private static void rowOfTheHundredth() {
        CountedHouse h = new CountedHouse();
        h.request(0, 1, 0, 5);
        h.lie(0);
        for (int k = 1; k <= 99; k++) {
            h.certify(0, CHANGE, 0, 0, 0);
            h.send(0, k, 1);
        }
        Check.eq("its last", voidOf(h, 0, PREPARE, 0, 0, 0), 0);
        Check.eq("READ", h.send(0, 100, 1), 1);
        isMessage("committed", h, 1, 1, COMMIT, 0, 100, 0, 0);
        historyIs("done", h, 1, 0);
        bothLate(h, 1, 2);
        h.send(2, 1, 1);
        rowIs("number 100", h, 1, 0);
    }

    private static void rowsDoNotMix() {
        // VIEW 1 opens with server 0's numbers 1 to 4; of server 1's own 3 and 4 in VIEW 1 server 2 knows one.
        CountedHouse h = new CountedHouse();
        for (int i = 0; i < 4; i++) {
            h.request(i, 1, 0, i);
            h.bring(i, 0);
        }
        bothLate(h, 0, 1);
        sendRest(h, 0, 1);
        rowIs("VIEW 1", h, 1, 0, 1, 2, 3);
        h.bring(3, 1);
        h.bring(2, 1);
        isMessage("the fourth of server 1", h, 1, 4, PREPARE, 1, 2, 0, 0);
        for (int k = 1; k <= 3; k++) {
            h.send(1, k, 2);
        }
        says("server 2 committed the third", h, 2, 1, 1, 2, 5);
        bothLate(h, 0, 2);
        for (int k = 1; k <= 6; k++) {
            h.send(0, k, 2);
        }
        isMessage("VIEW 2 is open", h, 2, 4, NEW, 2, 11, 18, 0);
        rowIs("VIEW 2", h, 2, 0, 1, 2, 3, 3);
    }
}
