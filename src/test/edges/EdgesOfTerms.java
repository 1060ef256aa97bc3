/** The edges of the words that all calls share: refusals, findings, partings, the list, kinds, steps, rings. */
final class EdgesOfTerms {
    private EdgesOfTerms() {
    }

    // ---- what it is, the face

    private static void the512thCall() {
        GivingHeaps x = with(3, 1);
        int calls = 3;
        while (calls < 511) {
            x.step(0, 1);
            calls++;
        }
        // 508 steps round a ring of three, one of them left over
        Edges.due("the 512th call", x.rank(0), 2);
    }

    private static void constants() {
        Edges.due("BAD", GivingHeaps.BAD, -1);
        Edges.due("FULL", GivingHeaps.FULL, -2);
        Edges.due("FINDING", GivingHeaps.FINDING, -3);
        Edges.due("STATE", GivingHeaps.STATE, -4);
        Edges.due("NONE", GivingHeaps.NONE, -9);
    }

    // ---- refusals

    private static void badAheadOfNothing() {
        GivingHeaps x = new GivingHeaps();
        Edges.bad("heap", x, y -> y.heap(0, 0));
        Edges.bad("mark", x, y -> y.mark(0, 4));
        Edges.bad("step", x, y -> y.step(0, 1001));
        Edges.bad("walks", x, y -> y.walks(0, 0, 4));
        Edges.bad("told", x, y -> y.told(0, 4));
        Edges.bad("copy from", x, y -> y.copy(12, 0, 0, 0));
        Edges.bad("copy to", x, y -> y.copy(0, 0, 0, 12));
        Edges.bad("steps from", x, y -> y.steps(12, 0));
        Edges.bad("steps to", x, y -> y.steps(0, 12));
        Edges.bad("ways from", x, y -> y.ways(12, 0));
        Edges.bad("ways to", x, y -> y.ways(0, 12));
        Edges.bad("walks from", x, y -> y.walks(12, 0, 0));
        Edges.bad("walks to", x, y -> y.walks(0, 12, 0));
    }

    private static void badAheadOfFull() {
        GivingHeaps x = with(18);
        Edges.bad("a heap too great of one that is full", x, y -> y.heap(0, 19));
        Edges.bad("a heap of none of one that is full", x, y -> y.heap(0, 0));
        Edges.bad("copy to no place", x, y -> y.copy(0, 0, 1, 12));
    }

    private static void noneIsNoFinding() {
        GivingHeaps x = with(4);
        Edges.put(x, 1, 3);
        Edges.none("list", x, y -> y.list(0, 4, 5));
        Edges.none("ring", x, y -> y.ring(4, 1));
        Edges.none("fromAt", x, y -> y.fromAt(0, 1));
        Edges.none("steps", x, y -> y.steps(0, 1));
    }

    private static void refusedOnMissing(GivingHeaps x) {
        Edges.found("at", x, Edges.NOTHING, y -> y.at(9, 0));
        Edges.found("tear", x, Edges.NOTHING, y -> y.tear(9));
        Edges.found("turn", x, Edges.NOTHING, y -> y.turn(9));
        Edges.found("step", x, Edges.NOTHING, y -> y.step(9, 1));
        Edges.found("walks", x, Edges.NOTHING, y -> y.walks(0, 9, 1));
    }

    private static void refusedChangesNothing() {
        GivingHeaps x = Edges.byRule(2, 9, 8);
        x.walks(0, 0, 1);
        refusedOnMissing(x);
        Edges.full("heap", x, y -> y.heap(0, 2));
        Edges.full("copy", x, y -> y.copy(0, 0, 1, 0));
        Edges.bad("rule", x, y -> y.rule(4));
        Edges.bad("list", x, y -> y.list(0, 19, 0));
        Edges.bad("parting", x, y -> y.parting(12));
        Edges.found("take", x, Edges.BEYOND, y -> y.take(0, 2));
        Edges.found("copy, none", x, Edges.SIZE, y -> y.copy(0, 0, -1, 0));
        Edges.found("mark", x, Edges.UNLIKE, y -> y.mark(0, 2));
        Edges.dueHeaps("behind all these", x, 0, 9, 8);
        Edges.due("THE RULE behind all these", x.count(0), 2);
        Edges.due("there behind all these", x.count(1), 1);
    }

    private static void findingNothing() {
        GivingHeaps x = new GivingHeaps();
        Edges.found("missing", x, 1, y -> y.rank(0));
        x.parting(0);
        Edges.due("an empty one is not missing", x.rank(0), 0);
    }

    private static void findingBeyond() {
        GivingHeaps x = with(2, 1);
        Edges.found("behind the last heap", x, 2, y -> y.at(0, 2));
        Edges.due("the last heap", x.at(0, 1), 1);
    }

    private static void findingUnlike() {
        GivingHeaps x = with(2, 1);
        Edges.found("STILL as LONELY", x, 3, y -> y.mark(0, 3));
        Edges.due("STILL as STILL", x.mark(0, 2), 1);
    }

    private static void findingNought() {
        GivingHeaps x = with();
        Edges.found("the mean of no heaps", x, 4, y -> y.mean(0));
        x.heap(0, 1);
        Edges.due("the mean of one", x.mean(0), 1);
    }

    private static void findingSize() {
        GivingHeaps x = with(2, 1);
        Edges.found("fewer than none", x, 5, y -> y.copy(0, 0, -1, 0));
        Edges.due("none", x.copy(0, 0, 0, 0), 2);
    }

    // ---- partings

    private static void firstAndLastPlace() {
        GivingHeaps x = new GivingHeaps();
        Edges.put(x, 0, 3);
        Edges.put(x, 11, 5);
        Edges.due("place 0", x.at(0, 0), 3);
        Edges.due("place 11", x.at(11, 0), 5);
        Edges.due("only these", x.count(1), 2);
        Edges.bad("place 12", x, y -> y.parting(12));
        Edges.bad("place -1", x, y -> y.parting(-1));
    }

    private static void noHeapWithoutCards() {
        GivingHeaps x = with(1);
        Edges.bad("a heap of none", x, y -> y.heap(0, 0));
        Edges.dueHeaps("a heap of 1", x, 0, 1);
    }

    private static void greatestFirst() {
        GivingHeaps x = with(1, 5, 3, 5, 2);
        Edges.dueHeaps("put in any order", x, 0, 5, 5, 3, 2, 1);
    }

    private static void eighteenCards() {
        GivingHeaps x = with(9, 9);
        Edges.put(x, 1, 18);
        Edges.due("each has 18", x.told(0, 0) + x.told(1, 0), 36);
        Edges.full("one more", x, y -> y.heap(0, 1));
        Edges.full("one more, to one heap", x, y -> y.heap(1, 1));
    }

    private static void missingAtFirst() {
        GivingHeaps x = new GivingHeaps();
        for (int p = 0; p < Edges.PLACES; p++) {
            int place = p;
            Edges.found("place " + p, x, Edges.NOTHING, y -> y.at(place, -1));
        }
    }

    private static void emptyHasNoHeaps() {
        GivingHeaps x = with();
        Edges.due("heaps", x.at(0, -1), 0);
        Edges.found("its first heap", x, Edges.BEYOND, y -> y.at(0, 0));
        Edges.due("it is there", x.count(1), 1);
    }

    private static void earlierByTheFirstDifference() {
        Edges.due("4 1 1 behind 4 2", with(4, 1, 1).rank(0), 3);
        Edges.due("4 2", with(4, 2).rank(0), 2);
        // a greater heap at place 0 tells, though the heaps behind it are less
        Edges.due("3 1 1 1 behind 3 2 1", with(3, 1, 1, 1).rank(0), 6);
        Edges.due("2 2 2 behind 3 1 1 1", with(2, 2, 2).rank(0), 7);
    }

    private static void listOfNoneAndOf18() {
        GivingHeaps x = new GivingHeaps();
        Edges.due("number 0 of 0", x.list(0, 0, 0), 1);
        Edges.dueHeaps("of 0", x, 0);
        Edges.none("number 1 of 0", x, y -> y.list(0, 0, 1));
        x.list(0, 18, 0);
        Edges.dueHeaps("first of 18", x, 0, 18);
        x.list(0, 18, 1);
        Edges.dueHeaps("next of 18", x, 0, 17, 1);
        x.list(0, 18, 384);
        Edges.dueHeaps("last of 18", x, 0, Edges.EIGHTEEN_ONES);
        Edges.bad("of -1", x, y -> y.many(-1));
        Edges.bad("of 19", x, y -> y.many(19));
    }

    // ---- kinds

    private static void kindParting() {
        Edges.due("3, which comes from ones and never again", with(3).kind(0), 0);
    }

    private static void kindRound() {
        Edges.due("2", with(2).kind(0), 1);
        Edges.due("1 1", with(1, 1).kind(0), 1);
        Edges.due("4 comes to a ROUND and is none", with(4).kind(0), 0);
        Edges.due("2 by GREATEST is none", Edges.byRule(Edges.GREATEST, 2).kind(0), 3);
    }

    private static void kindStill() {
        Edges.due("2 1", with(2, 1).kind(0), 2);
        Edges.due("3 1 in three STEPS", with(3, 1).kind(0), 1);
    }

    private static void kindLonely() {
        Edges.due("1 1 1", with(1, 1, 1).kind(0), 3);
        Edges.due("1 1 1 by GREATEST", Edges.byRule(Edges.GREATEST, 1, 1, 1).kind(0), 2);
        Edges.due("3 by GREATEST", Edges.byRule(Edges.GREATEST, 3).kind(0), 3);
    }

    // ---- steps by each rule

    private static void dueStep(String what, int rule, int[] before, int... after) {
        GivingHeaps x = Edges.byRule(rule, before);
        Edges.due(what, x.step(0, 1), after.length);
        Edges.dueHeaps(what, x, 0, after);
    }

    private static int[] heaps(int... heaps) {
        return heaps;
    }

    private static void each() {
        dueStep("4 4 2", Edges.EACH, heaps(4, 4, 2), 3, 3, 3, 1);
        dueStep("the new heap is the least", Edges.EACH, heaps(18), 17, 1);
        dueStep("all ones", Edges.EACH, Edges.EIGHTEEN_ONES, 18);
        dueStep("1", Edges.EACH, heaps(1), 1);
    }

    private static void greatest() {
        dueStep("alone", Edges.GREATEST, heaps(4, 3, 2), 3, 3, 2, 1);
        dueStep("of two alike one", Edges.GREATEST, heaps(4, 4), 4, 3, 1);
        dueStep("one heap", Edges.GREATEST, heaps(18), 17, 1);
        dueStep("1", Edges.GREATEST, heaps(1), 1);
        dueStep("all ones", Edges.GREATEST, Edges.EIGHTEEN_ONES, Edges.EIGHTEEN_ONES);
    }

    private static void two() {
        dueStep("7 5 3", Edges.TWO, heaps(7, 5, 3), 6, 5, 3, 1);
        dueStep("one, of a heap of 1", Edges.TWO, heaps(4, 1, 1), 4, 2);
        dueStep("two, of a heap of 2", Edges.TWO, heaps(2, 2), 4);
        dueStep("two, of a heap of 3", Edges.TWO, heaps(3), 2, 1);
        dueStep("1", Edges.TWO, heaps(1), 1);
        dueStep("all ones", Edges.TWO, Edges.EIGHTEEN_ONES, 18);
    }

    private static void least() {
        dueStep("to the first ones, as far as it goes", Edges.LEAST, heaps(4, 4, 4, 2), 5, 5, 4);
        dueStep("a 1, to the first alone", Edges.LEAST, heaps(3, 3, 1), 4, 3);
        dueStep("just enough", Edges.LEAST, heaps(3, 2, 2), 4, 3);
        dueStep("of two alike the last", Edges.LEAST, heaps(5, 5), 6, 4);
        dueStep("all ones", Edges.LEAST, Edges.EIGHTEEN_ONES, 2, 1, 1, 1, 1, 1, 1, 1, 1, 1, 1, 1, 1, 1, 1, 1, 1);
    }

    private static void leastLeavesAHeap() {
        dueStep("what is left", Edges.LEAST, heaps(7, 6, 5), 8, 7, 3);
        dueStep("one is left", Edges.LEAST, heaps(7, 2), 8, 1);
    }

    private static void emptyStays() {
        for (int rule = 0; rule < Edges.RULES; rule++) {
            dueStep("by rule " + rule, rule, heaps());
            GivingHeaps x = Edges.byRule(rule);
            Edges.due("a thousand steps by rule " + rule, x.step(0, 1000), 0);
            Edges.due("there still by rule " + rule, x.count(1), 1);
        }
    }

    private static void heapsWithoutCards() {
        dueStep("EACH, the ones go", Edges.EACH, heaps(2, 1, 1), 3, 1);
        dueStep("GREATEST, of ones", Edges.GREATEST, heaps(1, 1), 1, 1);
        dueStep("TWO, twos and ones go", Edges.TWO, heaps(3, 2, 1), 5, 1);
        dueStep("LEAST, nothing is left", Edges.LEAST, heaps(3, 1), 4);
    }

    private static void oneHeapByLeast() {
        dueStep("18", Edges.LEAST, heaps(18), 18);
        dueStep("1", Edges.LEAST, heaps(1), 1);
        Edges.due("it is STILL", Edges.byRule(Edges.LEAST, 5).kind(0), 2);
    }

    private static void ruleAtFirst() {
        GivingHeaps x = with(3, 3);
        Edges.due("THE RULE", x.count(0), 0);
        x.step(0, 1);
        Edges.dueHeaps("3 3 by it", x, 0, 2, 2, 2);
    }

    // ---- ways, rings

    private static void way() {
        GivingHeaps x = with(5);
        int[][] way = {{4, 1}, {3, 2}, {2, 2, 1}, {3, 1, 1}, {3, 2}};
        for (int[] next : way) {
            x.step(0, 1);
            Edges.dueHeaps("the way of 5", x, 0, next);
        }
    }

    private static void tailTillARound() {
        Edges.due("a ROUND", with(3, 2).tail(0), 0);
        Edges.due("one STEP ahead of it", with(4, 1).tail(0), 1);
        Edges.due("two STEPS ahead of it", with(5).tail(0), 2);
    }

    private static void beatOfARound() {
        Edges.due("3 2, 2 2 1, 3 1 1", with(2, 2, 1).beat(0), 3);
        Edges.due("a STILL one", with(2, 1).beat(0), 1);
        Edges.due("two", with(2).beat(0), 2);
    }

    private static void rings() {
        // of 8: 4 3 1, 3 3 2, 3 2 2 1, 4 2 1 1 are one, 4 2 2 and 3 3 1 1 the other one
        GivingHeaps x = new GivingHeaps();
        Edges.due("of 8", x.rounds(8, 0), 2);
        Edges.due("of 5", x.rounds(5, 0), 1);
        Edges.due("of 0", x.rounds(0, 0), 1);
        Edges.put(x, 0, 4, 3, 1);
        Edges.put(x, 1, 4, 2, 2);
        Edges.none("none comes of another one's", x, y -> y.steps(0, 1));
        Edges.none("nor back", x, y -> y.steps(1, 0));
    }

    private static void leaderIsTheEarliest() {
        Edges.due("of 3 1 1, 3 2, 2 2 1", with(3, 1, 1).leader(0), 2);
        Edges.due("of 4 2 1 1, 4 3 1, 3 3 2, 3 2 2 1", with(4, 2, 1, 1).leader(0), 8);
        Edges.due("not one on the way there", with(5).leader(0), 2);
    }

    // ---- turned, mixed

    private static void turned() {
        GivingHeaps x = with(4, 2, 2, 1);
        x.turn(0);
        Edges.dueHeaps("4 2 2 1", x, 0, 4, 3, 1, 1);
        Edges.put(x, 0, 18);
        x.turn(0);
        Edges.dueHeaps("18", x, 0, Edges.EIGHTEEN_ONES);
        x.turn(0);
        Edges.dueHeaps("ones", x, 0, 18);
        Edges.put(x, 0);
        x.turn(0);
        Edges.dueHeaps("empty", x, 0);
    }

    private static void mixed() {
        GivingHeaps x = with(5, 3);
        int[][] ends = {{5, 3}, {4, 3, 1}, {5, 2, 1}, {4, 2, 2}};
        for (int[] end : ends) {
            Edges.put(x, 1, end);
            Edges.due("a choice of 5 3", x.ways(0, 1), 1);
        }
        Edges.due("no other end", x.reach(0), 4);
    }

    private static void mixedWithNoneGiven() {
        Edges.due("5 3 to itself: none gives", with(5, 3).ways(0, 0), 1);
        Edges.due("empty to itself: none to give", with().ways(0, 0), 1);
        GivingHeaps x = Edges.byRule(Edges.GREATEST, 18);
        Edges.due("18 to itself, whatever THE RULE", x.ways(0, 0), 1);
    }

    private static void allChoices() {
        int[][] starts = {{}, {18}, {9, 9}, {3, 2, 1}, {1, 1, 1, 1}, {4, 3, 3, 2, 1, 1}};
        for (int[] start : starts) {
            Edges.due("choices of " + start.length + " heaps", choicesToAll(start), 1L << start.length);
        }
        Edges.due("choices of 18 heaps", choicesToAll(Edges.EIGHTEEN_ONES), 1L << 18);
    }

    private static long choicesToAll(int[] start) {
        GivingHeaps x = with(start);
        int cards = x.told(0, 0);
        long sum = 0;
        for (int k = 0; k < x.many(cards); k++) {
            // an object serves for 512 calls
            GivingHeaps y = with(start);
            y.list(1, cards, k);
            sum += y.ways(0, 1);
        }
        return sum;
    }

    private static GivingHeaps with(int... heaps) {
        return Edges.with(heaps);
    }

    static void run() {
        Edges.section("What it is");
        Edges.edge("An object is used for at most 512 calls", EdgesOfTerms::the512thCall);
        Edges.section("The public face");
        Edges.edge("BAD = -1, FULL = -2, FINDING = -3, STATE = -4, NONE = -9;", EdgesOfTerms::constants);
        runTerms();
        runSteps();
        runRings();
    }

    private static void runTerms() {
        Edges.section("Terms");
        Edges.edge("Refused is, the first of these that fits, in this order: BAD -1 (a number that is none, or not as"
                + " told), FULL -2, STATE -4 (not now), FINDING -3 (finding() tells which), unless a call says so"
                + " otherwise.", EdgesOfTerms::badAheadOfNothing);
        Edges.edge("in this order: BAD -1 (a number that is none, or not as told), FULL -2,", EdgesOfTerms::badAheadOfFull);
        Edges.edge("NONE -9.", EdgesOfTerms::noneIsNoFinding);
        Edges.edge("What is refused changes nothing but finding(), findings().", EdgesOfTerms::refusedChangesNothing);
        Edges.edge("FINDINGS: 1 NOTHING (a PARTING that is missing),", EdgesOfTerms::findingNothing);
        Edges.edge("2 BEYOND (a place that there is not),", EdgesOfTerms::findingBeyond);
        Edges.edge("3 UNLIKE (a PARTING of another KIND),", EdgesOfTerms::findingUnlike);
        Edges.edge("4 NOUGHT (shared among none),", EdgesOfTerms::findingNought);
        Edges.edge("5 SIZE (fewer than none).", EdgesOfTerms::findingSize);
        Edges.edge("======== 1 PARTINGS 0 .. 11 are rows of heaps", EdgesOfTerms::firstAndLastPlace);
        Edges.edge("heaps (each 1 card and more),", EdgesOfTerms::noHeapWithoutCards);
        Edges.edge("the greatest first,", EdgesOfTerms::greatestFirst);
        Edges.edge("18 cards at most in all,", EdgesOfTerms::eighteenCards);
        Edges.edge("or missing (at first).", EdgesOfTerms::missingAtFirst);
        Edges.edge("An empty one has no heaps.", EdgesOfTerms::emptyHasNoHeaps);
        Edges.edge("Of two PARTINGS of as many cards that one is EARLIER which has the greater heap at the first place"
                + " at which they differ.", EdgesOfTerms::earlierByTheFirstDifference);
        Edges.edge("THE LIST of n (0 .. 18): all PARTINGS of n cards, the EARLIEST first, numbers 0, 1, ..",
                EdgesOfTerms::listOfNoneAndOf18);
    }

    private static void runSteps() {
        Edges.edge("KINDS: 0 PARTING,", EdgesOfTerms::kindParting);
        Edges.edge("1 ROUND (a PARTING: by THE RULE it comes back to itself),", EdgesOfTerms::kindRound);
        Edges.edge("2 STILL (a ROUND: in one STEP),", EdgesOfTerms::kindStill);
        Edges.edge("3 LONELY (a PARTING: by THE RULE it comes from none).", EdgesOfTerms::kindLonely);
        Edges.edge("A STEP by a RULE: 0 EACH: every heap gives one card; what is given is a new heap.", EdgesOfTerms::each);
        Edges.edge("1 GREATEST: the first heap alone gives one; that is a new heap.", EdgesOfTerms::greatest);
        Edges.edge("2 TWO: every heap gives two cards (one, if it has no more); what is given is a new heap.",
                EdgesOfTerms::two);
        Edges.edge("3 LEAST: the last heap is given away, one card to each of the other heaps from the first on, as far"
                + " as it goes;", EdgesOfTerms::least);
        Edges.edge("what is left of it stays a heap.", EdgesOfTerms::leastLeavesAHeap);
        Edges.edge("(An empty PARTING stays;", EdgesOfTerms::emptyStays);
        Edges.edge("heaps without cards are none.", EdgesOfTerms::heapsWithoutCards);
        Edges.edge("Of one heap by LEAST: it stays.)", EdgesOfTerms::oneHeapByLeast);
        Edges.edge("THE RULE is 0 at first.", EdgesOfTerms::ruleAtFirst);
    }

    private static void runRings() {
        Edges.edge("======== 2 A PARTING's WAY: what comes of it STEP by STEP.", EdgesOfTerms::way);
        Edges.edge("Its TAIL: how many STEPS it takes till it is a ROUND;", EdgesOfTerms::tailTillARound);
        Edges.edge("its BEAT: in how many STEPS a ROUND comes back.", EdgesOfTerms::beatOfARound);
        Edges.edge("All ROUNDS that come of one another are a RING;", EdgesOfTerms::rings);
        Edges.edge("its LEADER is the EARLIEST of these.", EdgesOfTerms::leaderIsTheEarliest);
        Edges.edge("TURNED on its side: the heap i of it is how many heaps had i + 1 cards or more.", EdgesOfTerms::turned);
        Edges.edge("MIXED: with each heap giving one card or not, those that are given are a new heap",
                EdgesOfTerms::mixed);
        Edges.edge("(none, if none is given):", EdgesOfTerms::mixedWithNoneGiven);
        Edges.edge("WAYS from one PARTING to another one: how many of the 2 to the number of heaps choices lead there.",
                EdgesOfTerms::allChoices);
    }
}
