/** The edges of promises 29 to 33: what is told. */
final class EdgesOfTelling {
    private EdgesOfTelling() {
    }

    private static GivingHeaps with(int... heaps) {
        return Edges.with(heaps);
    }

    // ---- told

    private static void toldCards() {
        Edges.due("empty", with().told(0, 0), 0);
        Edges.due("1", with(1).told(0, 0), 1);
        Edges.due("9 9", with(9, 9).told(0, 0), 18);
    }

    private static void toldHeaps() {
        Edges.due("empty", with().told(0, 1), 0);
        Edges.due("18", with(18).told(0, 1), 1);
        Edges.due("18 ones", with(Edges.EIGHTEEN_ONES).told(0, 1), 18);
    }

    private static void toldGreatest() {
        Edges.due("empty", with().told(0, 2), 0);
        Edges.due("2 5 3", with(2, 5, 3).told(0, 2), 5);
        GivingHeaps x = with(18);
        x.take(0, 0);
        Edges.due("empty again", x.told(0, 2), 0);
    }

    private static void toldUnlike() {
        Edges.due("empty", with().told(0, 3), 0);
        Edges.due("5 3 3 1 1", with(5, 3, 3, 1, 1).told(0, 3), 3);
        Edges.due("all alike", with(Edges.EIGHTEEN_ONES).told(0, 3), 1);
        Edges.due("all unlike", with(5, 4, 3, 2, 1).told(0, 3), 5);
    }

    private static void toldBad() {
        for (int w = 0; w <= 3; w++) {
            int what = w;
            Edges.badPlaces((x, p) -> x.told(p, what));
        }
        int[] off = {-1, 4, Edges.MIN, Edges.MAX};
        for (int what : off) {
            Edges.bad("what " + what, with(2, 1), y -> y.told(0, what));
            Edges.bad("what " + what + " of a missing one", with(2, 1), y -> y.told(1, what));
        }
    }

    private static void toldNothing() {
        for (int w = 0; w <= 3; w++) {
            int what = w;
            Edges.nothing((x, p) -> x.told(p, what));
        }
    }

    // ---- count

    private static void countRule() {
        GivingHeaps x = new GivingHeaps();
        for (int r = 3; r >= 0; r--) {
            x.rule(r);
            Edges.due("rule " + r, x.count(0), r);
        }
    }

    private static void countThere() {
        GivingHeaps x = new GivingHeaps();
        Edges.due("none", x.count(1), 0);
        for (int p = 0; p < Edges.PLACES; p++) {
            x.parting(p);
            Edges.due("empty ones, too", x.count(1), p + 1);
        }
        x.parting(5);
        Edges.due("one that was there", x.count(1), 12);
        x.tear(11);
        Edges.due("torn", x.count(1), 11);
    }

    private static void countCards() {
        GivingHeaps x = new GivingHeaps();
        Edges.due("none", x.count(2), 0);
        for (int p = 0; p < Edges.PLACES; p++) {
            x.list(p, 18, p);
        }
        Edges.due("all full", x.count(2), 216);
        x.tear(0);
        Edges.due("torn", x.count(2), 198);
        x.parting(1);
        Edges.due("emptied", x.count(2), 180);
        x.step(2, 3);
        x.turn(3);
        Edges.due("steps and turns leave them", x.count(2), 180);
    }

    private static void countBad() {
        int[] off = {-1, 3, Edges.MIN, Edges.MAX};
        for (int what : off) {
            Edges.bad("what " + what, with(2, 1), y -> y.count(what));
        }
    }

    // ---- finding

    private static void findingOfEach() {
        GivingHeaps x = with(2, 1);
        Edges.put(x, 1);
        x.rank(2);
        Edges.due("NOTHING", x.finding(), 1);
        x.at(0, 2);
        Edges.due("BEYOND", x.finding(), 2);
        x.mark(0, 3);
        Edges.due("UNLIKE", x.finding(), 3);
        x.mean(1);
        Edges.due("NOUGHT", x.finding(), 4);
        x.copy(0, 0, -1, 0);
        Edges.due("SIZE", x.finding(), 5);
        x.rank(2);
        Edges.due("NOTHING again", x.finding(), 1);
    }

    private static void findingStays() {
        GivingHeaps x = with(18);
        x.mark(0, 2);
        x.heap(0, 19);
        Edges.due("behind BAD", x.finding(), 3);
        x.heap(0, 1);
        Edges.due("behind FULL", x.finding(), 3);
        x.list(0, 18, 385);
        Edges.due("behind NONE", x.finding(), 3);
        x.rank(0);
        x.parting(0);
        x.tear(0);
        Edges.due("behind answers", x.finding(), 3);
        Edges.due("asked again", x.finding(), 3);
    }

    private static void findingBeforeAny() {
        GivingHeaps x = new GivingHeaps();
        Edges.due("at first", x.finding(), 0);
        x.parting(12);
        x.list(0, 4, 9);
        x.list(0, 18, 0);
        x.heap(0, 1);
        Edges.due("behind BAD, NONE, FULL", x.finding(), 0);
    }

    // ---- findings

    private static void findingsHowOften() {
        GivingHeaps x = with(2, 1);
        Edges.put(x, 1);
        for (int f = 1; f <= 5; f++) {
            Edges.due("at first, " + f, x.findings(f), 0);
        }
        for (int i = 0; i < 5; i++) {
            x.copy(0, 0, -1, 0);
        }
        for (int i = 0; i < 4; i++) {
            x.mean(1);
        }
        for (int i = 0; i < 3; i++) {
            x.mark(0, 3);
        }
        x.at(0, 2);
        x.take(0, -1);
        x.rank(2);
        for (int f = 1; f <= 5; f++) {
            Edges.due("of " + f, x.findings(f), f);
        }
    }

    private static void findingsBad() {
        int[] off = {0, 6, -1, Edges.MIN, Edges.MAX};
        for (int f : off) {
            Edges.bad("of " + f, with(2, 1), y -> y.findings(f));
        }
    }

    // ---- digest

    private static long digestOf(long... values) {
        long h = 17;
        for (long v : values) {
            h = 31 * h + v;
        }
        return h;
    }

    private static void digestOfTheRule() {
        for (int r = 0; r < Edges.RULES; r++) {
            GivingHeaps x = new GivingHeaps();
            x.rule(r);
            Edges.due("rule " + r, x.digest(), digestOf(r, -1, -1, -1, -1, -1, -1, -1, -1, -1, -1, -1, -1));
        }
    }

    private static void digestOfMissingOnes() {
        GivingHeaps x = with();
        x.parting(11);
        long want = digestOf(0, 0, -1, -1, -1, -1, -1, -1, -1, -1, -1, -1, 0);
        Edges.due("empty is not missing", x.digest(), want);
        x.heap(0, 7);
        x.tear(0);
        x.tear(11);
        Edges.due("all torn", x.digest(), new GivingHeaps().digest());
    }

    private static void digestOfHeaps() {
        GivingHeaps x = with(1, 4, 2);
        Edges.put(x, 11, 7, 7);
        long want = digestOf(0, 3, 4, 2, 1, -1, -1, -1, -1, -1, -1, -1, -1, -1, -1, 2, 7, 7);
        Edges.due("the greatest first", x.digest(), want);
        x.take(0, 0);
        want = digestOf(0, 2, 2, 1, -1, -1, -1, -1, -1, -1, -1, -1, -1, -1, 2, 7, 7);
        Edges.due("one taken out", x.digest(), want);
    }

    private static void digestWrapsAround() {
        GivingHeaps x = new GivingHeaps();
        long[] values = new long[1 + 12 * 19];
        int at = 1;
        for (int p = 0; p < Edges.PLACES; p++) {
            x.list(p, 18, 384);
            values[at] = 18;
            java.util.Arrays.fill(values, at + 1, at + 19, 1);
            at += 19;
        }
        Edges.due("twelve of 18 ones", x.digest(), digestOf(values));
    }

    static void run() {
        Edges.section("Promise 29: told");
        Edges.edge("Of a PARTING: 0 cards,", EdgesOfTelling::toldCards);
        Edges.edge("1 heaps,", EdgesOfTelling::toldHeaps);
        Edges.edge("2 the greatest heap (0),", EdgesOfTelling::toldGreatest);
        Edges.edge("3 how many unlike heaps.", EdgesOfTelling::toldUnlike);
        Edges.edge("BAD;", EdgesOfTelling::toldBad);
        Edges.edge("NOTHING.", EdgesOfTelling::toldNothing);
        Edges.section("Promise 30: count");
        Edges.edge("0 THE RULE,", EdgesOfTelling::countRule);
        Edges.edge("1 PARTINGS that are there,", EdgesOfTelling::countThere);
        Edges.edge("2 cards in all.", EdgesOfTelling::countCards);
        Edges.edge("BAD.", EdgesOfTelling::countBad);
        runFindingsAndDigest();
    }

    private static void runFindingsAndDigest() {
        Edges.section("Promise 31: finding");
        Edges.edge("The latest FINDING", EdgesOfTelling::findingOfEach);
        Edges.edge("The latest FINDING", EdgesOfTelling::findingStays);
        Edges.edge("(0 before any).", EdgesOfTelling::findingBeforeAny);
        Edges.section("Promise 32: findings");
        Edges.edge("How often a FINDING (1 .. 5) was answered.", EdgesOfTelling::findingsHowOften);
        Edges.edge("BAD.", EdgesOfTelling::findingsBad);
        Edges.section("Promise 33: digest");
        Edges.edge("h = 17; then h = 31 h + v for each v: THE RULE;", EdgesOfTelling::digestOfTheRule);
        Edges.edge("h = 31 h + v", EdgesOfTelling::digestWrapsAround);
        Edges.edge("of each PARTING how many heaps (-1: missing),", EdgesOfTelling::digestOfMissingOnes);
        Edges.edge("and these.", EdgesOfTelling::digestOfHeaps);
    }
}
