/** For each promise of the document some calls with the answers that it asks for, worked out by hand. */
public final class PromiseTests {
    private static final int[] ENDS = {Integer.MIN_VALUE, Integer.MAX_VALUE};
    private static final int BAD = -1, FULL = -2, FINDING = -3, NONE = -9;
    private static final int NOTHING = 1, BEYOND = 2, UNLIKE = 3, NOUGHT = 4, SIZE = 5;

    private static int wrong = 0;
    private static String promise = "";

    private static void due(String what, long got, long want) {
        if (got != want) {
            wrong++;
            System.out.println(promise + ": " + what + " answered " + got + ", due is " + want);
        }
    }

    private static void dueFinding(GivingHeaps x, String what, int got, int finding) {
        due(what, got, FINDING);
        due(what + ", its finding", x.finding(), finding);
    }

    /** An object whose parting 0 has these heaps. */
    private static GivingHeaps with(int... heaps) {
        GivingHeaps x = new GivingHeaps();
        put(x, 0, heaps);
        return x;
    }

    private static void put(GivingHeaps x, int p, int... heaps) {
        x.parting(p);
        for (int c : heaps) {
            x.heap(p, c);
        }
    }

    private static void dueHeaps(GivingHeaps x, String what, int p, int... heaps) {
        due(what + ", how many heaps", x.at(p, -1), heaps.length);
        for (int i = 0; i < heaps.length; i++) {
            due(what + ", heap " + i, x.at(p, i), heaps[i]);
        }
    }

    private static GivingHeaps byRule(int rule, int... heaps) {
        GivingHeaps x = with(heaps);
        x.rule(rule);
        return x;
    }

    private static void newObject() {
        GivingHeaps x = new GivingHeaps();
        due("rule", x.count(0), 0);
        due("partings there", x.count(1), 0);
        due("cards", x.count(2), 0);
        due("finding", x.finding(), 0);
        due("asked", x.asked(), 0);
        for (int f = 1; f <= 5; f++) {
            due("findings " + f, x.findings(f), 0);
        }
        for (int p = 0; p < 12; p++) {
            due("tear " + p, x.tear(p), FINDING);
        }
        GivingHeaps y = new GivingHeaps();
        due("another object has nothing of the first one", y.findings(1), 0);
        due("constants", GivingHeaps.BAD * 10000L + GivingHeaps.FULL * 1000 + GivingHeaps.FINDING * 100
                + GivingHeaps.STATE * 10 + GivingHeaps.NONE, -12349);
    }

    private static void parting() {
        GivingHeaps x = new GivingHeaps();
        due("first", x.parting(0), 0);
        due("last place", x.parting(11), 0);
        due("again", x.parting(0), 1);
        x.heap(0, 5);
        due("with a heap", x.parting(0), 1);
        due("is empty again", x.at(0, -1), 0);
        due("has no cards", x.told(0, 0), 0);
        due("room is back", x.heap(0, 18), 1);
        due("below", x.parting(-1), BAD);
        due("above", x.parting(12), BAD);
        for (int p : ENDS) {
            due("far off", x.parting(p), BAD);
        }
        x.tear(0);
        due("after tear", x.parting(0), 0);
        due("empty after tear", x.at(0, -1), 0);
        due("no finding of it", x.finding(), 0);
    }

    private static void heap() {
        GivingHeaps x = new GivingHeaps();
        dueFinding(x, "missing", x.heap(3, 4), NOTHING);
        dueFinding(x, "missing, NOTHING ahead of FULL", x.heap(3, 18), NOTHING);
        due("BAD ahead of NOTHING", x.heap(3, 0), BAD);
        due("not counted", x.findings(NOTHING), 2);
        x.parting(3);
        due("first", x.heap(3, 4), 1);
        due("greater", x.heap(3, 6), 2);
        due("between", x.heap(3, 5), 3);
        due("FULL by one", x.heap(3, 4), FULL);
        dueHeaps(x, "unchanged", 3, 6, 5, 4);
        due("the least", x.heap(3, 1), 4);
        due("like", x.heap(3, 1), 5);
        due("18 cards", x.heap(3, 1), 6);
        due("19 cards", x.heap(3, 1), FULL);
        dueHeaps(x, "in order", 3, 6, 5, 4, 1, 1, 1);
        due("FULL is no finding", x.findings(NOTHING), 2);
        due("no cards", x.heap(3, 0), BAD);
        due("less", x.heap(3, -1), BAD);
        due("too many", x.heap(3, 19), BAD);
        due("no place", x.heap(12, 1), BAD);
        due("no place below", x.heap(-1, 1), BAD);
        for (int c : ENDS) {
            due("far off", x.heap(3, c), BAD);
            due("far off place", x.heap(c, 3), BAD);
        }
        put(x, 4);
        for (int i = 1; i <= 18; i++) {
            due("ones", x.heap(4, 1), i);
        }
        due("19 ones", x.heap(4, 1), FULL);
        put(x, 5, 17);
        due("17 and 2", x.heap(5, 2), FULL);
        due("17 and 1", x.heap(5, 1), 2);
    }

    private static void at() {
        GivingHeaps x = with(2, 7, 4);
        due("how many", x.at(0, -1), 3);
        due("0", x.at(0, 0), 7);
        due("1", x.at(0, 1), 4);
        due("2", x.at(0, 2), 2);
        dueFinding(x, "3", x.at(0, 3), BEYOND);
        dueFinding(x, "-2", x.at(0, -2), BEYOND);
        dueFinding(x, "18", x.at(0, 18), BEYOND);
        for (int i : ENDS) {
            dueFinding(x, "far off", x.at(0, i), BEYOND);
            due("far off place", x.at(i, 0), BAD);
        }
        dueFinding(x, "missing", x.at(1, 0), NOTHING);
        dueFinding(x, "missing, how many", x.at(1, -1), NOTHING);
        dueFinding(x, "missing, NOTHING ahead of BEYOND", x.at(1, 30), NOTHING);
        due("above", x.at(12, 0), BAD);
        due("below", x.at(-1, 0), BAD);
        put(x, 2);
        due("empty, how many", x.at(2, -1), 0);
        dueFinding(x, "empty", x.at(2, 0), BEYOND);
    }

    private static void take() {
        GivingHeaps x = with(6, 5, 4, 3);
        due("1", x.take(0, 1), 5);
        dueHeaps(x, "left", 0, 6, 4, 3);
        due("last", x.take(0, 2), 3);
        due("first", x.take(0, 0), 6);
        dueHeaps(x, "left", 0, 4);
        due("cards", x.told(0, 0), 4);
        dueFinding(x, "1 of 1", x.take(0, 1), BEYOND);
        dueFinding(x, "-1", x.take(0, -1), BEYOND);
        due("the only one", x.take(0, 0), 4);
        dueFinding(x, "none", x.take(0, 0), BEYOND);
        due("still there", x.at(0, -1), 0);
        due("room is back", x.heap(0, 18), 1);
        dueFinding(x, "missing", x.take(1, 0), NOTHING);
        due("above", x.take(12, 0), BAD);
        due("below", x.take(-1, 0), BAD);
        for (int i : ENDS) {
            dueFinding(x, "far off", x.take(0, i), BEYOND);
            due("far off place", x.take(i, 0), BAD);
        }
    }

    private static void tear() {
        GivingHeaps x = with(6, 5);
        put(x, 11, 3);
        due("there", x.tear(0), 1);
        dueFinding(x, "missing", x.tear(0), NOTHING);
        dueFinding(x, "its heaps", x.at(0, 0), NOTHING);
        due("the other one", x.at(11, 0), 3);
        due("there are", x.count(1), 1);
        due("cards", x.count(2), 3);
        due("above", x.tear(12), BAD);
        due("below", x.tear(-1), BAD);
        due("last place", x.tear(11), 1);
    }

    private static void copy() {
        GivingHeaps x = with(4, 3, 2);
        put(x, 1, 5);
        due("two", x.copy(0, 1, 2, 1), 3);
        dueHeaps(x, "where they belong", 1, 5, 3, 2);
        dueHeaps(x, "stays", 0, 4, 3, 2);
        due("to itself", x.copy(0, 0, 3, 0), 6);
        dueHeaps(x, "doubled", 0, 4, 4, 3, 3, 2, 2);
        due("full: one more", x.copy(1, 2, 1, 0), FULL);
        due("full: none more", x.copy(1, 2, 0, 0), 6);
        dueHeaps(x, "unchanged", 0, 4, 4, 3, 3, 2, 2);
        due("none, behind the last", x.copy(1, 3, 0, 0), 6);
        dueFinding(x, "none, beyond that", x.copy(1, 4, 0, 0), BEYOND);
        dueFinding(x, "none, before the first", x.copy(1, -1, 0, 0), BEYOND);
        dueFinding(x, "one before the first", x.copy(1, -1, 1, 0), BEYOND);
        dueFinding(x, "too many, BEYOND ahead of FULL", x.copy(1, 0, 4, 0), BEYOND);
        dueFinding(x, "too many from 2", x.copy(1, 2, 2, 1), BEYOND);
        dueFinding(x, "i + n wraps round", x.copy(1, 1, Integer.MAX_VALUE, 1), BEYOND);
        dueFinding(x, "both great", x.copy(1, Integer.MAX_VALUE, Integer.MAX_VALUE, 1), BEYOND);
        dueFinding(x, "from far below", x.copy(1, Integer.MIN_VALUE, 1, 1), BEYOND);
        dueFinding(x, "fewer than none", x.copy(1, 0, -1, 1), SIZE);
        dueFinding(x, "far fewer", x.copy(1, 0, Integer.MIN_VALUE, 1), SIZE);
        dueFinding(x, "SIZE ahead of NOTHING", x.copy(5, 0, -1, 1), SIZE);
        dueFinding(x, "SIZE ahead of BEYOND", x.copy(1, 9, -1, 1), SIZE);
        dueFinding(x, "missing source", x.copy(5, 0, 1, 1), NOTHING);
        dueFinding(x, "missing target", x.copy(1, 0, 1, 5), NOTHING);
        dueFinding(x, "NOTHING ahead of BEYOND", x.copy(1, 9, 1, 5), NOTHING);
        due("bad source", x.copy(12, 0, -1, 1), BAD);
        due("bad source below", x.copy(-1, 0, 1, 1), BAD);
        due("bad target", x.copy(1, 0, -1, 12), BAD);
        due("bad target below", x.copy(1, 0, 1, -1), BAD);
        dueHeaps(x, "nothing of it changed", 1, 5, 3, 2);
        put(x, 2);
        due("all, to an empty one", x.copy(0, 0, 6, 2), 6);
        dueHeaps(x, "alike", 2, 4, 4, 3, 3, 2, 2);
        put(x, 3);
        due("none of an empty one", x.copy(3, 0, 0, 3), 0);
    }

    private static void rule() {
        GivingHeaps x = with(3, 1);
        due("2", x.rule(2), 0);
        due("3", x.rule(3), 2);
        due("1", x.rule(1), 3);
        due("4", x.rule(4), BAD);
        due("-1", x.rule(-1), BAD);
        due("far off", x.rule(Integer.MIN_VALUE), BAD);
        due("unchanged", x.count(0), 1);
        due("alike", x.rule(1), 1);
        due("0", x.rule(0), 1);
        int[][] after = {{2, 2}, {2, 1, 1}, {3, 1}, {4}};
        for (int r = 0; r < 4; r++) {
            put(x, 0, 3, 1);
            x.rule(r);
            x.step(0, 1);
            dueHeaps(x, "3 1 by rule " + r, 0, after[r]);
        }
    }

    private static void kind() {
        due("STILL", with(3, 2, 1).kind(0), 2);
        due("empty", with().kind(0), 2);
        due("one", with(1).kind(0), 2);
        due("ROUND", with(2).kind(0), 1);
        due("ROUND too", with(1, 1).kind(0), 1);
        // 3 comes from 1 1 1, 1 1 1 from none: a heap for three givers would have to be there
        due("PARTING", with(3).kind(0), 0);
        due("LONELY", with(1, 1, 1).kind(0), 3);
        due("by GREATEST ones are STILL", byRule(1, 1, 1, 1).kind(0), 2);
        due("by GREATEST 3 is LONELY", byRule(1, 3).kind(0), 3);
        due("by TWO 2 is STILL", byRule(2, 2).kind(0), 2);
        due("by LEAST one heap is STILL", byRule(3, 18).kind(0), 2);
        due("by LEAST ones are LONELY", byRule(3, 1, 1).kind(0), 3);
        GivingHeaps x = byRule(1, 2);
        due("by GREATEST", x.kind(0), 3);
        x.rule(0);
        due("by EACH", x.kind(0), 1);
        dueFinding(x, "missing", x.kind(1), NOTHING);
        due("above", x.kind(12), BAD);
        due("below", x.kind(-1), BAD);
    }

    private static void mark() {
        GivingHeaps x = with(3, 2, 1);
        due("STILL as ROUND", x.mark(0, 1), 1);
        due("STILL, its number", x.mark(0, 2), 5);
        dueFinding(x, "STILL as LONELY", x.mark(0, 3), UNLIKE);
        put(x, 0, 2, 2);
        due("ROUND, its BEAT", x.mark(0, 1), 3);
        dueFinding(x, "ROUND as STILL", x.mark(0, 2), UNLIKE);
        dueFinding(x, "ROUND as LONELY", x.mark(0, 3), UNLIKE);
        put(x, 0, 1, 1, 1);
        due("LONELY, its TAIL", x.mark(0, 3), 2);
        dueFinding(x, "LONELY as ROUND", x.mark(0, 1), UNLIKE);
        put(x, 0, 3);
        for (int kind = 1; kind <= 3; kind++) {
            dueFinding(x, "PARTING as " + kind, x.mark(0, kind), UNLIKE);
        }
        int before = x.findings(UNLIKE);
        due("0", x.mark(0, 0), BAD);
        due("4", x.mark(0, 4), BAD);
        due("-1", x.mark(0, -1), BAD);
        due("BAD ahead of NOTHING", x.mark(1, 0), BAD);
        due("above", x.mark(12, 1), BAD);
        due("below", x.mark(-1, 1), BAD);
        due("none of these counted", x.findings(UNLIKE), before);
        dueFinding(x, "missing", x.mark(1, 1), NOTHING);
    }

    private static void mean() {
        due("8 of 2", with(7, 1).mean(0), 4);
        due("9 of 2, cut", with(7, 2).mean(0), 4);
        due("18 of 1", with(18).mean(0), 18);
        due("5 of 3, cut", with(3, 1, 1).mean(0), 1);
        GivingHeaps x = with();
        dueFinding(x, "empty", x.mean(0), NOUGHT);
        dueFinding(x, "missing", x.mean(1), NOTHING);
        due("above", x.mean(12), BAD);
        due("below", x.mean(-1), BAD);
    }

    private static void many() {
        int[] lengths = {1, 1, 2, 3, 5, 7, 11, 15, 22, 30, 42, 56, 77, 101, 135, 176, 231, 297, 385};
        GivingHeaps x = new GivingHeaps();
        for (int n = 0; n <= 18; n++) {
            due("of " + n, x.many(n), lengths[n]);
        }
        due("of -1", x.many(-1), BAD);
        due("of 19", x.many(19), BAD);
        for (int n : ENDS) {
            due("far off", x.many(n), BAD);
        }
    }

    private static void rank() {
        due("empty", with().rank(0), 0);
        due("5", with(5).rank(0), 0);
        due("4 1", with(4, 1).rank(0), 1);
        due("3 2", with(3, 2).rank(0), 2);
        due("3 1 1", with(3, 1, 1).rank(0), 3);
        due("2 2 1", with(2, 2, 1).rank(0), 4);
        due("2 1 1 1", with(2, 1, 1, 1).rank(0), 5);
        due("ones", with(1, 1, 1, 1, 1).rank(0), 6);
        due("18", with(18).rank(0), 0);
        // ahead of 9 9: those of a heap of 10 to 18 and a parting of the 8 to 0 other cards
        due("9 9", with(9, 9).rank(0), 22 + 15 + 11 + 7 + 5 + 3 + 2 + 1 + 1);
        GivingHeaps x = with(1);
        dueFinding(x, "missing", x.rank(1), NOTHING);
        due("above", x.rank(12), BAD);
        due("below", x.rank(-1), BAD);
    }

    private static void list() {
        GivingHeaps x = new GivingHeaps();
        int[][] ofFour = {{4}, {3, 1}, {2, 2}, {2, 1, 1}, {1, 1, 1, 1}};
        for (int k = 0; k < ofFour.length; k++) {
            due("of 4, " + k, x.list(0, 4, k), 1);
            dueHeaps(x, "of 4, " + k, 0, ofFour[k]);
        }
        due("behind the last", x.list(0, 4, 5), NONE);
        due("before the first", x.list(0, 4, -1), NONE);
        dueHeaps(x, "unchanged", 0, 1, 1, 1, 1);
        due("none for a missing one", x.list(1, 4, 5), NONE);
        dueFinding(x, "is missing still", x.tear(1), NOTHING);
        due("no cards", x.list(1, 0, 0), 1);
        dueHeaps(x, "is there then", 1);
        due("no cards, 1", x.list(1, 0, 1), NONE);
        due("the last of 18", x.list(11, 18, 384), 1);
        due("its heaps", x.at(11, -1), 18);
        due("behind it", x.list(11, 18, 385), NONE);
        for (int k : ENDS) {
            due("far off", x.list(0, 4, k), NONE);
        }
        due("of 19", x.list(0, 19, 0), BAD);
        due("of -1", x.list(0, -1, 0), BAD);
        due("above", x.list(12, 4, 0), BAD);
        due("below", x.list(-1, 4, 0), BAD);
        due("BAD ahead of NONE", x.list(12, 4, 9), BAD);
        for (int k = 0; k < 385; k++) {
            GivingHeaps y = new GivingHeaps();
            y.list(2, 18, k);
            due("number back", y.rank(2), k);
            int sum = 0;
            for (int i = 0; i < y.told(2, 1); i++) {
                sum += y.at(2, i);
            }
            due("cards", sum, 18);
        }
    }

    private static void turn() {
        GivingHeaps x = with(5, 2, 2, 1);
        due("5 2 2 1", x.turn(0), 5);
        dueHeaps(x, "turned", 0, 4, 3, 1, 1, 1);
        due("back", x.turn(0), 4);
        dueHeaps(x, "turned back", 0, 5, 2, 2, 1);
        due("alike", with(3, 1, 1).turn(0), 3);
        due("18", with(18).turn(0), 18);
        due("empty", with().turn(0), 0);
        put(x, 0, 1, 1, 1, 1, 1, 1, 1, 1, 1, 1, 1, 1, 1, 1, 1, 1, 1, 1);
        due("18 ones", x.turn(0), 1);
        dueHeaps(x, "18", 0, 18);
        dueFinding(x, "missing", x.turn(1), NOTHING);
        due("above", x.turn(12), BAD);
        due("below", x.turn(-1), BAD);
    }

    private static void dueStep(String what, int rule, int[] before, int... after) {
        GivingHeaps x = byRule(rule, before);
        due(what, x.step(0, 1), after.length);
        dueHeaps(x, what, 0, after);
    }

    private static void step() {
        dueStep("EACH", 0, new int[] {5, 3, 1}, 4, 3, 2);
        dueStep("EACH, one heap", 0, new int[] {18}, 17, 1);
        dueStep("EACH, ones", 0, new int[] {1, 1, 1}, 3);
        dueStep("GREATEST", 1, new int[] {5, 3, 1}, 4, 3, 1, 1);
        dueStep("GREATEST, one heap", 1, new int[] {18}, 17, 1);
        dueStep("GREATEST, alike", 1, new int[] {3, 3}, 3, 2, 1);
        dueStep("GREATEST, ones", 1, new int[] {1, 1, 1}, 1, 1, 1);
        dueStep("TWO", 2, new int[] {5, 3, 1}, 5, 3, 1);
        dueStep("TWO, twos and ones", 2, new int[] {6, 2, 1, 1}, 6, 4);
        dueStep("TWO, one heap", 2, new int[] {2}, 2);
        dueStep("TWO, one card", 2, new int[] {1}, 1);
        dueStep("LEAST, some left", 3, new int[] {5, 4}, 6, 3);
        dueStep("LEAST, as far as it goes", 3, new int[] {5, 4, 3, 2}, 6, 5, 3);
        dueStep("LEAST, just enough", 3, new int[] {4, 3, 2}, 5, 4);
        dueStep("LEAST, all alike", 3, new int[] {2, 2, 2, 2}, 3, 3, 2);
        dueStep("LEAST, one heap", 3, new int[] {7}, 7);
        for (int rule = 0; rule < 4; rule++) {
            dueStep("empty, rule " + rule, rule, new int[] {});
        }
        GivingHeaps x = with(4);
        due("no steps", x.step(0, 0), 1);
        dueHeaps(x, "no steps", 0, 4);
        due("two steps", x.step(0, 2), 2);
        dueHeaps(x, "two steps", 0, 2, 2);
        // 2 2, 2 1 1, 3 1 are a RING of three: 1000 steps are one step more than 333 times round
        due("1000 steps", x.step(0, 1000), 3);
        dueHeaps(x, "1000 steps", 0, 2, 1, 1);
        due("1001 steps", x.step(0, 1001), BAD);
        due("-1 steps", x.step(0, -1), BAD);
        for (int k : ENDS) {
            due("far off", x.step(0, k), BAD);
        }
        due("BAD ahead of NOTHING", x.step(1, -1), BAD);
        due("above", x.step(12, 1), BAD);
        due("below", x.step(-1, 1), BAD);
        dueHeaps(x, "unchanged", 0, 2, 1, 1);
        dueFinding(x, "missing", x.step(1, 1), NOTHING);
    }

    private static void tail() {
        due("STILL", with(2, 1).tail(0), 0);
        due("ROUND", with(3, 1).tail(0), 0);
        due("4, 3 1", with(4).tail(0), 1);
        due("1 1 1, 3, 2 1", with(1, 1, 1).tail(0), 2);
        due("empty", with().tail(0), 0);
        due("by GREATEST", byRule(1, 4).tail(0), 3);
        due("by LEAST", byRule(3, 2, 2).tail(0), 2);
        GivingHeaps x = with(1);
        dueFinding(x, "missing", x.tail(1), NOTHING);
        due("above", x.tail(12), BAD);
        due("below", x.tail(-1), BAD);
    }

    private static void beat() {
        due("STILL", with(2, 1).beat(0), 1);
        due("ROUND", with(3, 1).beat(0), 3);
        due("comes to it", with(1, 1, 1, 1).beat(0), 3);
        due("empty", with().beat(0), 1);
        due("by GREATEST", byRule(1, 4).beat(0), 1);
        due("by TWO 4, 2 2, 4", byRule(2, 4).beat(0), 2);
        GivingHeaps x = with(1);
        dueFinding(x, "missing", x.beat(1), NOTHING);
        due("above", x.beat(12), BAD);
        due("below", x.beat(-1), BAD);
    }

    private static void leader() {
        due("STILL", with(2, 1).leader(0), 1);
        due("comes to 3 1", with(4).leader(0), 1);
        due("in the RING of 3 1", with(2, 1, 1).leader(0), 1);
        due("empty", with().leader(0), 0);
        due("by GREATEST", byRule(1, 4).leader(0), 4);
        due("by LEAST", byRule(3, 1, 1, 1, 1).leader(0), 0);
        GivingHeaps x = with(1);
        dueFinding(x, "missing", x.leader(1), NOTHING);
        due("above", x.leader(12), BAD);
        due("below", x.leader(-1), BAD);
    }

    private static void rounds() {
        GivingHeaps x = new GivingHeaps();
        // of 4: 4 to 3 1 to 2 2 to 2 1 1 to 3 1; 1 1 1 1 to 4
        int[] ofFour = {1, 3, 2, 1, 3};
        int[] ofNone = {1, 1, 0, 0, 1};
        for (int what = 0; what <= 4; what++) {
            due("of 4, " + what, x.rounds(4, what), ofFour[what]);
            due("of 0, " + what, x.rounds(0, what), ofNone[what]);
        }
        // as many necklaces of four black and white beads as have two of each
        due("RINGS of 8", x.rounds(8, 0), 2);
        due("ROUNDS of 8", x.rounds(8, 1), 6);
        due("ROUNDS of 18", x.rounds(18, 1), 20);
        due("RINGS of 18", x.rounds(18, 0), 4);
        // the greatest TAIL of 1 + .. + k cards is k (k - 1)
        due("greatest TAIL of 6", x.rounds(6, 2), 6);
        due("greatest TAIL of 15", x.rounds(15, 2), 20);
        x.rule(1);
        due("by GREATEST, RINGS", x.rounds(4, 0), 1);
        due("by GREATEST, greatest TAIL", x.rounds(4, 2), 3);
        // 4 to 3 1 to 2 1 1 to ones, 2 2 to 2 1 1
        due("by GREATEST, LONELY", x.rounds(4, 3), 2);
        due("-1", x.rounds(4, -1), BAD);
        due("5", x.rounds(4, 5), BAD);
        due("of -1", x.rounds(-1, 0), BAD);
        due("of 19", x.rounds(19, 0), BAD);
        for (int n : ENDS) {
            due("far off", x.rounds(n, 0), BAD);
            due("far off what", x.rounds(4, n), BAD);
        }
    }

    private static void ring() {
        GivingHeaps x = new GivingHeaps();
        due("of 4", x.ring(4, 0), 1);
        due("of 4, 1", x.ring(4, 1), NONE);
        due("of 8", x.ring(8, 0), 8);
        due("of 8, 1", x.ring(8, 1), 9);
        due("of 8, 2", x.ring(8, 2), NONE);
        due("of 8, -1", x.ring(8, -1), NONE);
        due("of 0", x.ring(0, 0), 0);
        due("of 0, 1", x.ring(0, 1), NONE);
        due("of -1", x.ring(-1, 0), BAD);
        due("of 19", x.ring(19, 0), BAD);
        for (int i : ENDS) {
            due("far off", x.ring(8, i), NONE);
            due("far off cards", x.ring(i, 0), BAD);
        }
        x.rule(3);
        due("by LEAST", x.ring(8, 0), 0);
        due("by LEAST, 1", x.ring(8, 1), NONE);
    }

    private static void from() {
        due("3 1 from 4, 2 1 1", with(3, 1).from(0), 2);
        due("4 from ones", with(4).from(0), 1);
        due("ones from none", with(1, 1, 1, 1).from(0), 0);
        due("empty", with().from(0), 1);
        due("by GREATEST 2 1 1", byRule(1, 2, 1, 1).from(0), 2);
        due("by GREATEST ones", byRule(1, 1, 1, 1).from(0), 2);
        GivingHeaps x = with(1);
        dueFinding(x, "missing", x.from(1), NOTHING);
        due("above", x.from(12), BAD);
        due("below", x.from(-1), BAD);
    }

    private static void fromAt() {
        GivingHeaps x = with(3, 1);
        due("0", x.fromAt(0, 0), 0);
        due("1", x.fromAt(0, 1), 3);
        due("2", x.fromAt(0, 2), NONE);
        due("-1", x.fromAt(0, -1), NONE);
        for (int i : ENDS) {
            due("far off", x.fromAt(0, i), NONE);
            due("far off place", x.fromAt(i, 0), BAD);
        }
        due("LONELY", with(1, 1, 1).fromAt(0, 0), NONE);
        due("empty", with().fromAt(0, 0), 0);
        x.rule(1);
        due("by GREATEST 3 1 from 4", x.fromAt(0, 0), 0);
        due("by GREATEST from no other", x.fromAt(0, 1), NONE);
        dueFinding(x, "missing", x.fromAt(1, 0), NOTHING);
        dueFinding(x, "NOTHING ahead of NONE", x.fromAt(1, -1), NOTHING);
        due("above", x.fromAt(12, 0), BAD);
        due("below", x.fromAt(-1, 0), BAD);
    }

    private static void steps() {
        GivingHeaps x = with(4);
        put(x, 1, 2, 1, 1);
        put(x, 2, 3, 1);
        put(x, 3, 1, 1, 1, 1);
        put(x, 4, 4);
        put(x, 5, 3);
        due("4 to 2 1 1", x.steps(0, 1), 3);
        due("round", x.steps(1, 2), 1);
        due("never back", x.steps(1, 0), NONE);
        due("from ones", x.steps(3, 1), 4);
        due("itself", x.steps(0, 0), 0);
        due("alike", x.steps(0, 4), 0);
        due("other cards", x.steps(0, 5), NONE);
        x.rule(1);
        due("by GREATEST", x.steps(0, 3), 3);
        put(x, 5);
        put(x, 6);
        due("empty ones", x.steps(5, 6), 0);
        dueFinding(x, "missing start", x.steps(7, 0), NOTHING);
        dueFinding(x, "missing end", x.steps(0, 7), NOTHING);
        due("bad start", x.steps(12, 7), BAD);
        due("bad end", x.steps(7, 12), BAD);
        due("below", x.steps(-1, 0), BAD);
        due("below", x.steps(0, -1), BAD);
    }

    private static void ways() {
        GivingHeaps x = with(2, 1);
        put(x, 1, 1, 1, 1);
        put(x, 2, 3);
        put(x, 3);
        put(x, 4, 2);
        // of 2 1: none gives or the 1 gives or both give: 2 1; the 2 gives: 1 1 1
        due("2 1 to itself", x.ways(0, 0), 3);
        due("2 1 to ones", x.ways(0, 1), 1);
        due("2 1 to 3", x.ways(0, 2), 0);
        due("ones to 2 1", x.ways(1, 0), 3);
        due("ones to 3", x.ways(1, 2), 1);
        due("ones to ones", x.ways(1, 1), 4);
        due("empty", x.ways(3, 3), 1);
        due("other cards", x.ways(0, 4), 0);
        due("other cards, empty", x.ways(0, 3), 0);
        x.rule(3);
        due("whatever THE RULE is", x.ways(1, 0), 3);
        x.list(5, 18, 384);
        x.list(6, 18, 0);
        // 9 of 18 ones
        put(x, 7, 9, 1, 1, 1, 1, 1, 1, 1, 1, 1);
        due("18 ones to 18", x.ways(5, 6), 1);
        due("18 ones to 9 and ones", x.ways(5, 7), 48620);
        dueFinding(x, "missing start", x.ways(8, 0), NOTHING);
        dueFinding(x, "missing end", x.ways(0, 8), NOTHING);
        due("bad start", x.ways(12, 8), BAD);
        due("bad end", x.ways(8, 12), BAD);
        due("below", x.ways(-1, 0), BAD);
        due("below", x.ways(0, -1), BAD);
    }

    private static void reach() {
        due("2 1", with(2, 1).reach(0), 2);
        due("ones", with(1, 1, 1).reach(0), 3);
        due("3: itself and 2 1", with(3).reach(0), 2);
        due("1", with(1).reach(0), 1);
        due("empty", with().reach(0), 1);
        GivingHeaps x = with();
        x.list(0, 18, 384);
        due("18 ones", x.reach(0), 18);
        dueFinding(x, "missing", x.reach(1), NOTHING);
        due("above", x.reach(12), BAD);
        due("below", x.reach(-1), BAD);
    }

    private static void dueWalks(GivingHeaps x, int p, int q, int k, long want) {
        due("walks " + p + " " + q + " " + k, x.walks(p, q, k), 1);
        due("asked of " + p + " " + q + " " + k, x.asked(), want);
    }

    private static void walks() {
        GivingHeaps x = with(2, 1);
        put(x, 1, 1, 1, 1);
        put(x, 2, 3);
        put(x, 3);
        put(x, 4, 2);
        put(x, 5);
        dueWalks(x, 0, 0, 0, 1);
        dueWalks(x, 0, 1, 0, 0);
        dueWalks(x, 1, 0, 1, 3);
        // of 3: 3 stays or becomes 2 1; 2 1: three ways stay, one to ones; ones: 4 stay, 3 to 2 1, 1 to 3
        dueWalks(x, 0, 0, 2, 3 * 3 + 3);
        dueWalks(x, 2, 1, 2, 1);
        dueWalks(x, 0, 2, 2, 1);
        dueWalks(x, 0, 2, 3, 3 + 4 + 1);
        dueWalks(x, 1, 1, 3, 4 * 4 * 4 + 2 * 4 * 3 + 3 * 3 + 1);
        dueWalks(x, 0, 4, 3, 0);
        dueWalks(x, 0, 4, 0, 0);
        dueWalks(x, 3, 5, 3, 1);
        dueWalks(x, 3, 3, 0, 1);
        x.list(6, 18, 384);
        dueWalks(x, 6, 6, 1, 19);
        due("-1 steps", x.walks(0, 0, -1), BAD);
        due("4 steps", x.walks(0, 0, 4), BAD);
        due("BAD ahead of NOTHING", x.walks(8, 0, 4), BAD);
        for (int k : ENDS) {
            due("far off", x.walks(0, 0, k), BAD);
        }
        dueFinding(x, "missing start", x.walks(8, 0, 1), NOTHING);
        dueFinding(x, "missing end", x.walks(0, 8, 0), NOTHING);
        due("bad start", x.walks(12, 8, 1), BAD);
        due("bad end", x.walks(8, 12, 1), BAD);
        due("below", x.walks(-1, 0, 1), BAD);
        due("below", x.walks(0, -1, 1), BAD);
    }

    private static void asked() {
        GivingHeaps x = new GivingHeaps();
        due("before", x.asked(), 0);
        put(x, 0, 2, 1);
        x.walks(0, 0, 1);
        due("told", x.asked(), 3);
        due("told again", x.asked(), 3);
        x.walks(0, 0, 4);
        due("after BAD", x.asked(), 3);
        x.walks(0, 1, 1);
        due("after NOTHING", x.asked(), 3);
        x.ways(0, 0);
        x.parting(0);
        x.tear(0);
        due("after other calls", x.asked(), 3);
        put(x, 0, 2, 1);
        put(x, 1, 3);
        x.walks(0, 1, 1);
        due("none", x.asked(), 0);
        long sum = 0;
        long most = 0;
        for (int k = 0; k < 385; k++) {
            GivingHeaps y = new GivingHeaps();
            y.list(0, 18, 384);
            y.list(1, 18, k);
            y.walks(0, 1, 1);
            sum += y.asked();
            y.walks(0, 1, 3);
            most = Math.max(most, y.asked());
        }
        due("all choices of 18 ones", sum, 1 << 18);
        due("more than an int holds", most > Integer.MAX_VALUE ? 1 : 0, 1);
    }

    private static void told() {
        GivingHeaps x = with(5, 3, 3, 1, 1);
        int[] want = {13, 5, 5, 3};
        for (int what = 0; what <= 3; what++) {
            due("of 5 3 3 1 1, " + what, x.told(0, what), want[what]);
        }
        put(x, 1);
        for (int what = 0; what <= 3; what++) {
            due("of an empty one, " + what, x.told(1, what), 0);
        }
        put(x, 2, 4, 4, 4);
        due("alike", x.told(2, 3), 1);
        dueFinding(x, "missing", x.told(3, 0), NOTHING);
        due("BAD ahead of NOTHING", x.told(3, 4), BAD);
        due("4", x.told(0, 4), BAD);
        due("-1", x.told(0, -1), BAD);
        due("above", x.told(12, 0), BAD);
        due("below", x.told(-1, 0), BAD);
    }

    private static void count() {
        GivingHeaps x = with(5, 3);
        put(x, 4, 9);
        put(x, 11);
        x.rule(2);
        due("rule", x.count(0), 2);
        due("there", x.count(1), 3);
        due("cards", x.count(2), 17);
        x.tear(4);
        due("there after tear", x.count(1), 2);
        due("cards after tear", x.count(2), 8);
        due("3", x.count(3), BAD);
        due("-1", x.count(-1), BAD);
        for (int what : ENDS) {
            due("far off", x.count(what), BAD);
        }
        for (int p = 0; p < 12; p++) {
            x.list(p, 18, p);
        }
        due("all there", x.count(1), 12);
        due("all cards", x.count(2), 216);
    }

    private static void finding() {
        GivingHeaps x = new GivingHeaps();
        due("before any", x.finding(), 0);
        x.at(0, 0);
        due("NOTHING", x.finding(), 1);
        x.parting(0);
        x.at(0, 0);
        due("BEYOND", x.finding(), 2);
        x.mean(0);
        due("NOUGHT", x.finding(), 4);
        x.copy(0, 0, -1, 0);
        due("SIZE", x.finding(), 5);
        x.mark(0, 3);
        due("UNLIKE", x.finding(), 3);
        x.parting(12);
        x.heap(0, 18);
        x.heap(0, 1);
        x.list(0, 5, 99);
        x.rank(0);
        due("BAD, FULL, NONE and answers leave it", x.finding(), 3);
    }

    private static void findings() {
        GivingHeaps x = new GivingHeaps();
        x.at(0, 0);
        x.at(0, 0);
        x.at(0, 0);
        x.parting(0);
        x.at(0, 0);
        x.take(0, 0);
        x.mean(0);
        x.copy(0, 0, -1, 0);
        x.copy(0, 0, -2, 0);
        x.mark(0, 3);
        x.parting(12);
        x.heap(0, 18);
        x.heap(0, 1);
        x.list(0, 5, 99);
        int[] want = {BAD, 3, 2, 1, 1, 2, BAD};
        for (int f = 0; f <= 6; f++) {
            due("of " + f, x.findings(f), want[f]);
        }
        due("of -1", x.findings(-1), BAD);
        for (int f : ENDS) {
            due("far off", x.findings(f), BAD);
        }
    }

    private static long digestOf(long... values) {
        long h = 17;
        for (long v : values) {
            h = 31 * h + v;
        }
        return h;
    }

    private static void digest() {
        GivingHeaps x = new GivingHeaps();
        due("new", x.digest(), digestOf(0, -1, -1, -1, -1, -1, -1, -1, -1, -1, -1, -1, -1));
        x.rule(3);
        x.parting(0);
        put(x, 2, 1, 4);
        put(x, 11, 7);
        long want = digestOf(3, 0, -1, 2, 4, 1, -1, -1, -1, -1, -1, -1, -1, -1, 1, 7);
        due("of some", x.digest(), want);
        x.at(5, 0);
        x.heap(2, 18);
        x.list(5, 18, 400);
        x.step(2, 1001);
        x.kind(2);
        x.walks(2, 2, 3);
        due("refusals and questions leave it", x.digest(), want);
        x.tear(2);
        due("torn", x.digest(), digestOf(3, 0, -1, -1, -1, -1, -1, -1, -1, -1, -1, -1, 1, 7));
    }

    private static void run(String name, Runnable test) {
        promise = name;
        test.run();
    }

    public static void main(String[] args) {
        run("promise 1, a new object", PromiseTests::newObject);
        run("promise 2, parting", PromiseTests::parting);
        run("promise 3, heap", PromiseTests::heap);
        run("promise 4, at", PromiseTests::at);
        run("promise 5, take", PromiseTests::take);
        run("promise 6, tear", PromiseTests::tear);
        run("promise 7, copy", PromiseTests::copy);
        run("promise 8, rule", PromiseTests::rule);
        run("promise 9, kind", PromiseTests::kind);
        run("promise 10, mark", PromiseTests::mark);
        run("promise 11, mean", PromiseTests::mean);
        run("promise 12, many", PromiseTests::many);
        run("promise 13, rank", PromiseTests::rank);
        run("promise 14, list", PromiseTests::list);
        run("promise 15, turn", PromiseTests::turn);
        run("promise 16, step", PromiseTests::step);
        run("promise 17, tail", PromiseTests::tail);
        run("promise 18, beat", PromiseTests::beat);
        run("promise 19, leader", PromiseTests::leader);
        run("promise 20, rounds", PromiseTests::rounds);
        run("promise 21, ring", PromiseTests::ring);
        run("promise 22, from", PromiseTests::from);
        run("promise 23, fromAt", PromiseTests::fromAt);
        run("promise 24, steps", PromiseTests::steps);
        run("promise 25, ways", PromiseTests::ways);
        run("promise 26, reach", PromiseTests::reach);
        run("promise 27, walks", PromiseTests::walks);
        run("promise 28, asked", PromiseTests::asked);
        run("promise 29, told", PromiseTests::told);
        run("promise 30, count", PromiseTests::count);
        run("promise 31, finding", PromiseTests::finding);
        run("promise 32, findings", PromiseTests::findings);
        run("promise 33, digest", PromiseTests::digest);
        System.out.println(wrong == 0 ? "all answers are as due" : wrong + " answers are not as due");
        if (wrong != 0) {
            System.exit(1);
        }
    }
}
