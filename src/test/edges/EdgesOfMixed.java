/** The edges of promises 25 to 28: mixed. */
final class EdgesOfMixed {
    private EdgesOfMixed() {
    }

    private static GivingHeaps two(int[] start, int... end) {
        GivingHeaps x = Edges.with(start);
        Edges.put(x, 1, end);
        return x;
    }

    private static int[] heaps(int... heaps) {
        return heaps;
    }

    // ---- ways

    private static void dueWays(String what, int want, int[] start, int... end) {
        Edges.due(what, two(start, end).ways(0, 1), want);
    }

    private static void waysThere() {
        // 2 1: none, the 1 or both give, and it is 2 1 again; the 2 gives, and it is ones
        dueWays("2 1 to 2 1", 3, heaps(2, 1), 2, 1);
        dueWays("2 1 to ones", 1, heaps(2, 1), 1, 1, 1);
        dueWays("of heaps alike each may give", 2, heaps(4, 4), 4, 3, 1);
        dueWays("1 to 1: it gives or not", 2, heaps(1), 1);
        dueWays("18 ones to 18: all give", 1, Edges.EIGHTEEN_ONES, 18);
        dueWays("18 ones to ones: none or one gives", 19, Edges.EIGHTEEN_ONES, Edges.EIGHTEEN_ONES);
        dueWays("18 ones to 17 1: all but one give", 18, Edges.EIGHTEEN_ONES, 17, 1);
        dueWays("18 ones to 9 and ones: 9 of 18", 48620, Edges.EIGHTEEN_ONES, 9, 1, 1, 1, 1, 1, 1, 1, 1, 1);
        Edges.due("one and the same", Edges.with(2, 1).ways(0, 0), 3);
    }

    private static void waysNone() {
        dueWays("no choice", 0, heaps(2, 1), 3);
        dueWays("18 to 16 2", 0, heaps(18), 16, 2);
        dueWays("18 to 17 1", 1, heaps(18), 17, 1);
        dueWays("to more cards", 0, heaps(2, 1), 2, 2);
        dueWays("to fewer cards", 0, heaps(2, 1), 2);
        dueWays("to no cards", 0, heaps(1));
        dueWays("from no cards", 0, heaps(), 1);
        dueWays("from no cards to none", 1, heaps());
    }

    private static void waysBad() {
        Edges.badPlaces((x, p) -> x.ways(p, 0));
        Edges.badPlaces((x, p) -> x.ways(0, p));
    }

    private static void waysNothing() {
        Edges.nothing((x, p) -> x.ways(p, (p + 1) % Edges.PLACES));
        Edges.nothing((x, p) -> x.ways((p + 1) % Edges.PLACES, p));
        Edges.nothing((x, p) -> x.ways(p, p));
    }

    // ---- reach

    private static void reachHowMany() {
        Edges.due("empty: itself", Edges.with().reach(0), 1);
        Edges.due("1: itself", Edges.with(1).reach(0), 1);
        Edges.due("18: itself and 17 1", Edges.with(18).reach(0), 2);
        Edges.due("2 1: itself and ones", Edges.with(2, 1).reach(0), 2);
        Edges.due("18 ones: by how many give, none as one", Edges.with(Edges.EIGHTEEN_ONES).reach(0), 18);
        Edges.due("9 9: none, one or both give", Edges.with(9, 9).reach(0), 3);
        Edges.due("whatever THE RULE", Edges.byRule(Edges.LEAST, 9, 9).reach(0), 3);
    }

    private static void reachOneAfterAnother() {
        GivingHeaps x = two(Edges.EIGHTEEN_ONES, 18);
        Edges.put(x, 2);
        Edges.due("18 ones", x.reach(0), 18);
        Edges.due("18 behind them", x.reach(1), 2);
        Edges.due("empty behind them", x.reach(2), 1);
        x.walks(0, 0, 3);
        Edges.due("18 behind walks", x.reach(1), 2);
        Edges.due("18 ones again", x.reach(0), 18);
    }

    private static void reachBad() {
        Edges.badPlaces(GivingHeaps::reach);
    }

    private static void reachNothing() {
        Edges.nothing(GivingHeaps::reach);
    }

    // ---- walks

    private static void dueWalks(String what, GivingHeaps x, int k, long want) {
        Edges.due(what + ": walks", x.walks(0, 1, k), 1);
        Edges.due(what + ": asked", x.asked(), want);
    }

    private static void walksOfEachLength() {
        // of 3 cards: 3 stays or becomes 2 1; 2 1 stays in 3 ways, becomes ones in 1;
        // ones stay in 4 ways, become 2 1 in 3, and 3 in 1
        GivingHeaps x = two(heaps(2, 1), 2, 1);
        dueWalks("no step, alike", x, 0, 1);
        dueWalks("one step", x, 1, 3);
        dueWalks("two steps", x, 2, 3 * 3 + 3);
        dueWalks("three steps", x, 3, 3 * 12 + 3 * 3 + 4 * 3 + 1);
        GivingHeaps unlike = two(heaps(3), 1, 1, 1);
        dueWalks("no step, unlike", unlike, 0, 0);
        dueWalks("too few steps", unlike, 1, 0);
        dueWalks("just enough", unlike, 2, 1);
        dueWalks("one more", unlike, 3, 1 + 3 + 4);
    }

    private static void walksBeyondThree() {
        int[] off = {-1, 4, Edges.MIN, Edges.MAX};
        for (int k : off) {
            Edges.bad(k + " steps", Edges.allThere(), y -> y.walks(0, 1, k));
            Edges.bad(k + " steps of missing ones", new GivingHeaps(), y -> y.walks(0, 1, k));
        }
    }

    private static void walksBetweenUnlikeCards() {
        GivingHeaps x = two(heaps(2, 1), 2, 2);
        for (int k = 0; k <= 3; k++) {
            dueWalks("to more cards", x, k, 0);
        }
        GivingHeaps empty = two(heaps());
        for (int k = 0; k <= 3; k++) {
            dueWalks("of no cards", empty, k, 1);
        }
        GivingHeaps toEmpty = two(heaps(1));
        dueWalks("to no cards", toEmpty, 3, 0);
    }

    private static void walksAreToldByAsked() {
        GivingHeaps x = two(Edges.EIGHTEEN_ONES, Edges.EIGHTEEN_ONES);
        Edges.due("it answers 1, not how many", x.walks(0, 1, 1), 1);
        Edges.due("how many", x.asked(), 19);
        GivingHeaps y = two(heaps(2, 1), 3);
        Edges.due("1, though there are none", y.walks(0, 1, 1), 1);
        Edges.due("none", y.asked(), 0);
    }

    private static void walksOfMoreThanAnInt() {
        long sum = 0;
        for (int k = 0; k < 385; k++) {
            GivingHeaps x = Edges.with(Edges.EIGHTEEN_ONES);
            x.list(1, 18, k);
            x.walks(0, 1, 2);
            sum += x.asked();
        }
        // j of 18 give: 18 - j ones are left, and the new heap (none of 0) makes one heap more
        long want = 1L << 18;
        long chosen = 1;
        for (int j = 1; j <= 18; j++) {
            chosen = chosen * (19 - j) / j;
            want += chosen << (19 - j);
        }
        Edges.due("two steps to all ends", sum, want);
        Edges.due("an end of more than an int", mostWalks() > Edges.MAX ? 1 : 0, 1);
    }

    private static long mostWalks() {
        long most = 0;
        for (int k = 0; k < 385; k++) {
            GivingHeaps x = Edges.with(Edges.EIGHTEEN_ONES);
            x.list(1, 18, k);
            x.walks(0, 1, 3);
            most = Math.max(most, x.asked());
        }
        return most;
    }

    private static void walksBad() {
        Edges.badPlaces((x, p) -> x.walks(p, 0, 1));
        Edges.badPlaces((x, p) -> x.walks(0, p, 1));
        Edges.badPlaces((x, p) -> x.walks(p, 0, 0));
    }

    private static void walksNothing() {
        for (int steps = 0; steps <= 3; steps++) {
            int k = steps;
            Edges.nothing((x, p) -> x.walks(p, (p + 1) % Edges.PLACES, k));
            Edges.nothing((x, p) -> x.walks((p + 1) % Edges.PLACES, p, k));
        }
        Edges.nothing((x, p) -> x.walks(p, p, 0));
    }

    // ---- asked

    private static void askedOfTheLatest() {
        GivingHeaps x = two(heaps(2, 1), 1, 1, 1);
        x.walks(0, 0, 1);
        Edges.due("the first", x.asked(), 3);
        x.walks(0, 1, 1);
        Edges.due("the latest", x.asked(), 1);
        Edges.due("the latest, asked again", x.asked(), 1);
        x.walks(1, 0, 1);
        x.tear(0);
        x.tear(1);
        x.rule(2);
        Edges.due("though all is torn", x.asked(), 3);
    }

    private static void askedBehindRefused() {
        GivingHeaps x = two(heaps(2, 1), 1, 1, 1);
        x.walks(0, 0, 1);
        x.walks(0, 1, 4);
        Edges.due("behind BAD", x.asked(), 3);
        x.walks(0, 2, 1);
        Edges.due("behind NOTHING", x.asked(), 3);
        x.walks(12, 1, 1);
        Edges.due("behind BAD of a place", x.asked(), 3);
        x.walks(0, 1, 0);
        Edges.due("behind one that is not refused and tells 0", x.asked(), 0);
    }

    private static void askedBefore() {
        GivingHeaps x = new GivingHeaps();
        Edges.due("at first", x.asked(), 0);
        x.walks(0, 0, 0);
        Edges.due("behind one that is refused", x.asked(), 0);
        Edges.put(x, 0, 2, 1);
        x.ways(0, 0);
        x.reach(0);
        Edges.due("behind ways() and reach()", x.asked(), 0);
    }

    static void run() {
        Edges.section("Promise 25: ways");
        Edges.edge("WAYS from one PARTING to another one.", EdgesOfMixed::waysThere);
        Edges.edge("WAYS from one PARTING to another one.", EdgesOfMixed::waysNone);
        Edges.edge("BAD;", EdgesOfMixed::waysBad);
        Edges.edge("NOTHING: either.", EdgesOfMixed::waysNothing);
        Edges.section("Promise 26: reach");
        Edges.edge("How many PARTINGS a MIXED step can lead to.", EdgesOfMixed::reachHowMany);
        Edges.edge("a MIXED step can lead to.", EdgesOfMixed::reachOneAfterAnother);
        Edges.edge("BAD;", EdgesOfMixed::reachBad);
        Edges.edge("NOTHING.", EdgesOfMixed::reachNothing);
        runWalks();
    }

    private static void runWalks() {
        Edges.section("Promise 27: walks");
        Edges.edge("Choices of k MIXED steps (0 .. 3), one behind the other,", EdgesOfMixed::walksOfEachLength);
        Edges.edge("(0 .. 3),", EdgesOfMixed::walksBeyondThree);
        Edges.edge("that lead from one PARTING to another one:", EdgesOfMixed::walksBetweenUnlikeCards);
        Edges.edge("told by asked(): 1.", EdgesOfMixed::walksAreToldByAsked);
        Edges.edge("told by asked():", EdgesOfMixed::walksOfMoreThanAnInt);
        Edges.edge("BAD;", EdgesOfMixed::walksBad);
        Edges.edge("NOTHING: either.", EdgesOfMixed::walksNothing);
        Edges.section("Promise 28: asked");
        Edges.edge("What the latest walks()", EdgesOfMixed::askedOfTheLatest);
        Edges.edge("walks() that was not refused told;", EdgesOfMixed::askedBehindRefused);
        Edges.edge("0 before.", EdgesOfMixed::askedBefore);
    }
}
