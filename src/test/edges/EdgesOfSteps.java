/** The edges of promises 16 to 24: steps, rounds. */
final class EdgesOfSteps {
    private EdgesOfSteps() {
    }

    private static GivingHeaps with(int... heaps) {
        return Edges.with(heaps);
    }

    private static GivingHeaps byRule(int rule, int... heaps) {
        return Edges.byRule(rule, heaps);
    }

    // ---- step

    private static void stepNone() {
        GivingHeaps x = with(4, 1);
        Edges.due("no steps", x.step(0, 0), 2);
        Edges.dueHeaps("no steps", x, 0, 4, 1);
    }

    private static void stepThousand() {
        // 3 2, 2 2 1, 3 1 1 come round; 4 1 is one STEP ahead of them, 999 STEPS more are 333 times round
        GivingHeaps x = with(4, 1);
        Edges.due("1000 steps", x.step(0, 1000), 2);
        Edges.dueHeaps("1000 steps", x, 0, 3, 2);
        Edges.due("999 steps", x.step(0, 999), 2);
        Edges.dueHeaps("999 steps", x, 0, 3, 2);
        Edges.due("1000 steps of a ROUND", x.step(0, 1000), 3);
        Edges.dueHeaps("1000 steps of a ROUND", x, 0, 2, 2, 1);
    }

    private static void stepBeyondThousand() {
        int[] off = {-1, 1001, Edges.MIN, Edges.MAX};
        for (int k : off) {
            Edges.bad(k + " steps", with(4, 1), y -> y.step(0, k));
            Edges.bad(k + " steps of a missing one", with(4, 1), y -> y.step(1, k));
        }
    }

    private static void stepTellsHowMany() {
        Edges.due("18 ones", with(Edges.EIGHTEEN_ONES).step(0, 1), 1);
        Edges.due("18", with(18).step(0, 1), 2);
        Edges.due("18 by GREATEST, to ones", byRule(Edges.GREATEST, 18).step(0, 17), 18);
        Edges.due("18 by GREATEST, one STEP ahead of ones", byRule(Edges.GREATEST, 18).step(0, 16), 17);
        Edges.due("empty", with().step(0, 1), 0);
    }

    private static void stepBad() {
        Edges.badPlaces((x, p) -> x.step(p, 1));
    }

    private static void stepNothing() {
        Edges.nothing((x, p) -> x.step(p, 1));
        Edges.nothing((x, p) -> x.step(p, 0));
    }

    // ---- tail

    private static void tailOfEach() {
        Edges.due("STILL", with(2, 1).tail(0), 0);
        Edges.due("ROUND", with(1, 1).tail(0), 0);
        Edges.due("empty", with().tail(0), 0);
        Edges.due("one STEP ahead", with(3).tail(0), 1);
        Edges.due("LONELY", with(1, 1, 1).tail(0), 2);
        Edges.due("18 by GREATEST", byRule(Edges.GREATEST, 18).tail(0), 17);
        Edges.due("3 1 by LEAST", byRule(Edges.LEAST, 3, 1).tail(0), 1);
        Edges.due("2 1 1 by TWO", byRule(Edges.TWO, 2, 1, 1).tail(0), 1);
    }

    private static void tailBad() {
        Edges.badPlaces(GivingHeaps::tail);
    }

    private static void tailNothing() {
        Edges.nothing(GivingHeaps::tail);
    }

    // ---- beat

    private static void beatOfEach() {
        Edges.due("STILL", with(2, 1).beat(0), 1);
        Edges.due("ROUND", with(1, 1).beat(0), 2);
        Edges.due("empty", with().beat(0), 1);
        Edges.due("one that comes to it", with(4).beat(0), 3);
        Edges.due("LONELY", with(1, 1, 1, 1).beat(0), 3);
        Edges.due("2 2 by TWO", byRule(Edges.TWO, 2, 2).beat(0), 2);
        // of 8 the ring of 4 3 1 has four ROUNDS, that of 4 2 2 has two
        Edges.due("4 2 2", with(4, 2, 2).beat(0), 2);
        Edges.due("4 3 1", with(4, 3, 1).beat(0), 4);
        Edges.due("6 1 1 comes to 4 2 2", with(6, 1, 1).beat(0), 2);
    }

    private static void beatBad() {
        Edges.badPlaces(GivingHeaps::beat);
    }

    private static void beatNothing() {
        Edges.nothing(GivingHeaps::beat);
    }

    // ---- leader

    private static void leaderOfEach() {
        Edges.due("STILL", with(2, 1).leader(0), 1);
        Edges.due("ROUND that leads", with(3, 1).leader(0), 1);
        Edges.due("ROUND that does not", with(2, 1, 1).leader(0), 1);
        Edges.due("one that comes to it", with(4).leader(0), 1);
        Edges.due("empty", with().leader(0), 0);
        Edges.due("18 by LEAST", byRule(Edges.LEAST, 18).leader(0), 0);
        Edges.due("18 ones by LEAST", byRule(Edges.LEAST, Edges.EIGHTEEN_ONES).leader(0), 0);
        Edges.due("18 by GREATEST", byRule(Edges.GREATEST, 18).leader(0), 384);
        Edges.due("3 3 1 1, in another RING than 4 3 1", with(3, 3, 1, 1).leader(0), 9);
    }

    private static void leaderBad() {
        Edges.badPlaces(GivingHeaps::leader);
    }

    private static void leaderNothing() {
        Edges.nothing(GivingHeaps::leader);
    }

    // ---- rounds

    // By each rule, of no cards, of 1 and of 4; of 4 worked out from 4, 3 1, 2 2, 2 1 1, 1 1 1 1 one by one.
    private static void dueRounds(int what, int ofFew, int... ofFour) {
        for (int rule = 0; rule < Edges.RULES; rule++) {
            GivingHeaps x = byRule(rule);
            Edges.due("of 0 by rule " + rule, x.rounds(0, what), ofFew);
            Edges.due("of 1 by rule " + rule, x.rounds(1, what), ofFew);
            Edges.due("of 4 by rule " + rule, x.rounds(4, what), ofFour[rule]);
        }
    }

    private static void roundsRings() {
        dueRounds(0, 1, 1, 1, 2, 1);
        // 18 = 1 + .. + 5 + 3: as many as necklaces of six beads, three of them black
        Edges.due("of 18", new GivingHeaps().rounds(18, 0), 4);
    }

    private static void roundsByTheRuleOfNow() {
        // RINGS and LONELY ones of 2, 3, 4 by each rule, on one object, asked twice in two orders
        int[][] rings = {{1, 1, 1}, {1, 1, 1}, {1, 1, 2}, {1, 1, 1}};
        int[][] lonely = {{0, 1, 1}, {1, 1, 2}, {1, 1, 2}, {1, 1, 2}};
        GivingHeaps x = new GivingHeaps();
        for (int turn = 0; turn < 2; turn++) {
            for (int i = 0; i < Edges.RULES; i++) {
                int rule = turn == 0 ? i : Edges.RULES - 1 - i;
                x.rule(rule);
                for (int n = 2; n <= 4; n++) {
                    Edges.due("RINGS of " + n + " by rule " + rule, x.rounds(n, 0), rings[rule][n - 2]);
                    Edges.due("LONELY ones of " + n + " by rule " + rule, x.rounds(n, 3), lonely[rule][n - 2]);
                }
            }
        }
    }

    private static void roundsRounds() {
        dueRounds(1, 1, 3, 1, 3, 1);
        // three of six
        Edges.due("of 18", new GivingHeaps().rounds(18, 1), 20);
        Edges.due("of 15, STILL alone", new GivingHeaps().rounds(15, 1), 1);
    }

    private static void roundsTail() {
        dueRounds(2, 0, 2, 3, 1, 3);
        Edges.due("of 18 by GREATEST", byRule(Edges.GREATEST).rounds(18, 2), 17);
        Edges.due("of 15: 5 times 4", new GivingHeaps().rounds(15, 2), 20);
    }

    private static void roundsLonely() {
        dueRounds(3, 0, 1, 2, 2, 2);
        Edges.due("of 2: none", new GivingHeaps().rounds(2, 3), 0);
    }

    private static void roundsBeat() {
        dueRounds(4, 1, 3, 1, 2, 1);
        Edges.due("of 18", new GivingHeaps().rounds(18, 4), 6);
        Edges.due("of 8, of 4 and 2", new GivingHeaps().rounds(8, 4), 4);
    }

    private static void roundsBad() {
        int[] off = {-1, 19, Edges.MIN, Edges.MAX};
        for (int n : off) {
            for (int w = -1; w <= 5; w++) {
                int what = w;
                Edges.bad("of " + n + ", " + w, with(1), y -> y.rounds(n, what));
            }
        }
        int[] offWhat = {-1, 5, Edges.MIN, Edges.MAX};
        for (int what : offWhat) {
            Edges.bad("of 4, " + what, with(1), y -> y.rounds(4, what));
            Edges.bad("of 0, " + what, with(1), y -> y.rounds(0, what));
        }
    }

    // ---- ring

    private static void ringByLeaders() {
        GivingHeaps x = new GivingHeaps();
        Edges.due("of 8, the first", x.ring(8, 0), 8);
        Edges.due("of 8, the last", x.ring(8, 1), 9);
        Edges.due("of 0", x.ring(0, 0), 0);
        Edges.due("of 1", x.ring(1, 0), 0);
        x.rule(Edges.TWO);
        Edges.due("of 4 by TWO, 4 and 2 2", x.ring(4, 0), 0);
        Edges.due("of 4 by TWO, 3 1", x.ring(4, 1), 1);
        x.rule(Edges.GREATEST);
        Edges.due("of 18 by GREATEST", x.ring(18, 0), 384);
        x.rule(Edges.LEAST);
        Edges.due("of 18 by LEAST", x.ring(18, 0), 0);
    }

    private static void ringNone() {
        int[][] off = {{0, 1}, {4, 1}, {8, 2}, {18, 4}, {8, -1}, {8, Edges.MIN}, {8, Edges.MAX}};
        for (int[] ring : off) {
            Edges.none("RING " + ring[1] + " of " + ring[0], with(1), y -> y.ring(ring[0], ring[1]));
        }
        Edges.due("RING 3 of 18 is none", new GivingHeaps().ring(18, 3) == Edges.NONE ? 1 : 0, 0);
    }

    private static void ringBad() {
        int[] off = {-1, 19, Edges.MIN, Edges.MAX};
        for (int n : off) {
            Edges.bad("of " + n, with(1), y -> y.ring(n, 0));
            Edges.bad("of " + n + ", ahead of NONE", with(1), y -> y.ring(n, -1));
            Edges.bad("of " + n + ", ahead of NONE behind the last", with(1), y -> y.ring(n, Edges.MAX));
        }
    }

    // ---- from

    private static void fromHowMany() {
        Edges.due("LONELY, from none", with(1, 1, 1).from(0), 0);
        Edges.due("18 from ones", with(18).from(0), 1);
        Edges.due("empty from itself", with().from(0), 1);
        Edges.due("1 from itself", with(1).from(0), 1);
        Edges.due("2 1 from 3 and itself", with(2, 1).from(0), 2);
        Edges.due("4 by TWO from 2 2, 2 1 1 and ones", byRule(Edges.TWO, 4).from(0), 3);
        Edges.due("3 1 by LEAST from 2 2 and 2 1 1", byRule(Edges.LEAST, 3, 1).from(0), 2);
        Edges.due("18 ones by GREATEST from 2 and ones, too", byRule(Edges.GREATEST, Edges.EIGHTEEN_ONES).from(0), 2);
    }

    private static void fromBad() {
        Edges.badPlaces(GivingHeaps::from);
    }

    private static void fromNothing() {
        Edges.nothing(GivingHeaps::from);
    }

    // ---- fromAt

    private static void fromAtEach() {
        GivingHeaps x = byRule(Edges.TWO, 4);
        int[] numbers = {2, 3, 4};
        for (int i = 0; i < numbers.length; i++) {
            Edges.due("4 by TWO, " + i, x.fromAt(0, i), numbers[i]);
        }
        Edges.due("18 from ones", with(18).fromAt(0, 0), 384);
        Edges.due("empty from itself", with().fromAt(0, 0), 0);
        Edges.due("17 1 from 18", with(17, 1).fromAt(0, 0), 0);
    }

    private static void fromAtNone() {
        int[] off = {2, -1, Edges.MIN, Edges.MAX};
        for (int i : off) {
            Edges.none("2 1, " + i, with(2, 1), y -> y.fromAt(0, i));
        }
        Edges.none("LONELY", with(1, 1, 1), y -> y.fromAt(0, 0));
        Edges.none("empty, 1", with(), y -> y.fromAt(0, 1));
    }

    private static void fromAtBad() {
        Edges.badPlaces((x, p) -> x.fromAt(p, 0));
        Edges.bad("ahead of NONE", with(1), y -> y.fromAt(12, 9));
    }

    private static void fromAtNothing() {
        Edges.nothing((x, p) -> x.fromAt(p, 0));
        Edges.nothing((x, p) -> x.fromAt(p, -1));
    }

    // ---- steps

    private static GivingHeaps two(int rule, int[] start, int... end) {
        GivingHeaps x = byRule(rule, start);
        Edges.put(x, 1, end);
        return x;
    }

    private static int[] heaps(int... heaps) {
        return heaps;
    }

    private static void stepsHowMany() {
        Edges.due("5 to 4 1", two(Edges.EACH, heaps(5), 4, 1).steps(0, 1), 1);
        Edges.due("5 to the last of its WAY", two(Edges.EACH, heaps(5), 3, 1, 1).steps(0, 1), 4);
        Edges.due("round to the one ahead", two(Edges.EACH, heaps(3, 2), 3, 1, 1).steps(0, 1), 2);
        Edges.due("18 to ones by GREATEST", two(Edges.GREATEST, heaps(18), Edges.EIGHTEEN_ONES).steps(0, 1), 17);
        Edges.due("18 ones to 18", two(Edges.EACH, Edges.EIGHTEEN_ONES, 18).steps(0, 1), 1);
        Edges.due("2 to 1 1, the whole of THE LIST", two(Edges.EACH, heaps(2), 1, 1).steps(0, 1), 1);
    }

    private static void stepsOfAlike() {
        Edges.due("alike", two(Edges.EACH, heaps(5), 5).steps(0, 1), 0);
        Edges.due("a ROUND alike", two(Edges.EACH, heaps(3, 2), 3, 2).steps(0, 1), 0);
        Edges.due("itself", with(1, 1, 1).steps(0, 0), 0);
        Edges.due("empty ones", two(Edges.EACH, heaps()).steps(0, 1), 0);
    }

    private static void stepsNever() {
        Edges.none("back from a ROUND", two(Edges.EACH, heaps(3, 2), 4, 1), y -> y.steps(0, 1));
        Edges.none("to a LONELY one", two(Edges.EACH, heaps(5), 1, 1, 1, 1, 1), y -> y.steps(0, 1));
        Edges.none("to more cards", two(Edges.EACH, heaps(5), 6), y -> y.steps(0, 1));
        Edges.none("to one as far on in a shorter list", two(Edges.EACH, heaps(4, 1), 3, 1), y -> y.steps(0, 1));
        Edges.none("to no cards", two(Edges.EACH, heaps(5)), y -> y.steps(0, 1));
        Edges.none("from no cards", two(Edges.EACH, heaps(), 1), y -> y.steps(0, 1));
        Edges.none("18 to 9 9", two(Edges.EACH, heaps(18), 9, 9), y -> y.steps(0, 1));
    }

    private static void stepsBad() {
        Edges.badPlaces((x, p) -> x.steps(p, 0));
        Edges.badPlaces((x, p) -> x.steps(0, p));
    }

    private static void stepsNothing() {
        Edges.nothing((x, p) -> x.steps(p, (p + 1) % Edges.PLACES));
        Edges.nothing((x, p) -> x.steps((p + 1) % Edges.PLACES, p));
        Edges.nothing((x, p) -> x.steps(p, p));
    }

    static void run() {
        runStep();
        runTailBeatLeader();
        runRounds();
        runFrom();
        runBetween();
    }

    private static void runStep() {
        Edges.section("Promise 16: step");
        Edges.edge("A PARTING does k STEPS (0 .. 1000):", EdgesOfSteps::stepNone);
        Edges.edge("k STEPS (0 .. 1000):", EdgesOfSteps::stepThousand);
        Edges.edge("(0 .. 1000):", EdgesOfSteps::stepBeyondThousand);
        Edges.edge("how many heaps it has.", EdgesOfSteps::stepTellsHowMany);
        Edges.edge("BAD;", EdgesOfSteps::stepBad);
        Edges.edge("NOTHING.", EdgesOfSteps::stepNothing);
    }

    private static void runTailBeatLeader() {
        Edges.section("Promise 17: tail");
        Edges.edge("TAIL of a PARTING.", EdgesOfSteps::tailOfEach);
        Edges.edge("BAD;", EdgesOfSteps::tailBad);
        Edges.edge("NOTHING.", EdgesOfSteps::tailNothing);
        Edges.section("Promise 18: beat");
        Edges.edge("BEAT of the RING to which a PARTING comes.", EdgesOfSteps::beatOfEach);
        Edges.edge("BAD;", EdgesOfSteps::beatBad);
        Edges.edge("NOTHING.", EdgesOfSteps::beatNothing);
        Edges.section("Promise 19: leader");
        Edges.edge("The number in THE LIST of the LEADER of that RING.", EdgesOfSteps::leaderOfEach);
        Edges.edge("BAD;", EdgesOfSteps::leaderBad);
        Edges.edge("NOTHING.", EdgesOfSteps::leaderNothing);
    }

    private static void runRounds() {
        Edges.section("Promise 20: rounds");
        Edges.edge("How many RINGS THE LIST of n has by THE RULE (what = 0),", EdgesOfSteps::roundsRings);
        Edges.edge("by THE RULE", EdgesOfSteps::roundsByTheRuleOfNow);
        Edges.edge("how many ROUNDS (1),", EdgesOfSteps::roundsRounds);
        Edges.edge("the greatest TAIL (2),", EdgesOfSteps::roundsTail);
        Edges.edge("how many LONELY ones (3),", EdgesOfSteps::roundsLonely);
        Edges.edge("the greatest BEAT (4).", EdgesOfSteps::roundsBeat);
        Edges.edge("BAD.", EdgesOfSteps::roundsBad);
        Edges.section("Promise 21: ring");
        Edges.edge("The number of the LEADER of RING i (by LEADERS, the EARLIEST first) of THE LIST of n;",
                EdgesOfSteps::ringByLeaders);
        Edges.edge("NONE: none such.", EdgesOfSteps::ringNone);
        Edges.edge("BAD: n.", EdgesOfSteps::ringBad);
    }

    private static void runFrom() {
        Edges.section("Promise 22: from");
        Edges.edge("From how many PARTINGS a PARTING comes in one STEP.", EdgesOfSteps::fromHowMany);
        Edges.edge("BAD;", EdgesOfSteps::fromBad);
        Edges.edge("NOTHING.", EdgesOfSteps::fromNothing);
        Edges.section("Promise 23: fromAt");
        Edges.edge("The number in THE LIST of the i-th of these (the EARLIEST first);", EdgesOfSteps::fromAtEach);
        Edges.edge("NONE: none such.", EdgesOfSteps::fromAtNone);
        Edges.edge("BAD;", EdgesOfSteps::fromAtBad);
        Edges.edge("NOTHING.", EdgesOfSteps::fromAtNothing);
    }

    private static void runBetween() {
        Edges.section("Promise 24: steps");
        Edges.edge("In how many STEPS one PARTING becomes another one", EdgesOfSteps::stepsHowMany);
        Edges.edge("(0: alike);", EdgesOfSteps::stepsOfAlike);
        Edges.edge("NONE: never.", EdgesOfSteps::stepsNever);
        Edges.edge("BAD;", EdgesOfSteps::stepsBad);
        Edges.edge("NOTHING: either.", EdgesOfSteps::stepsNothing);
    }
}
