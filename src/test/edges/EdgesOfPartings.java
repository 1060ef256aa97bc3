/** The edges of promises 1 to 11: partings. */
final class EdgesOfPartings {
    private EdgesOfPartings() {
    }

    private static GivingHeaps with(int... heaps) {
        return Edges.with(heaps);
    }

    // ---- a new object

    private static void newHasNoPartings() {
        GivingHeaps x = new GivingHeaps();
        Edges.due("there", x.count(1), 0);
        Edges.due("cards", x.count(2), 0);
        for (int p = 0; p < Edges.PLACES; p++) {
            int place = p;
            Edges.found("tear(" + p + ")", x, Edges.NOTHING, y -> y.tear(place));
        }
        GivingHeaps other = Edges.allThere();
        Edges.due("another object has its own", other.count(1), 12);
        Edges.due("the first one stays as it is", x.count(1), 0);
    }

    private static void newHasRule0() {
        Edges.due("count(0)", new GivingHeaps().count(0), 0);
        Edges.due("what it was", new GivingHeaps().rule(3), 0);
        Edges.byRule(2);
        Edges.due("another object has its own", new GivingHeaps().count(0), 0);
    }

    // ---- parting

    private static void partingIsThereEmpty() {
        GivingHeaps x = new GivingHeaps();
        x.parting(4);
        Edges.dueHeaps("that was missing", x, 4);
        Edges.put(x, 4, 9, 9);
        x.parting(4);
        Edges.dueHeaps("that was full", x, 4);
        Edges.due("its cards are gone", x.told(4, 0), 0);
        Edges.due("its room is back", x.heap(4, 18), 1);
        x.tear(4);
        x.parting(4);
        Edges.dueHeaps("that was torn", x, 4);
        Edges.due("no other one is there", x.count(1), 1);
    }

    private static void partingThatWasThere() {
        GivingHeaps x = with();
        Edges.due("an empty one", x.parting(0), 1);
        x.heap(0, 18);
        Edges.due("a full one", x.parting(0), 1);
        x.list(1, 3, 0);
        Edges.due("one of THE LIST", x.parting(1), 1);
    }

    private static void partingThatWasMissing() {
        GivingHeaps x = new GivingHeaps();
        for (int p = 0; p < Edges.PLACES; p++) {
            Edges.due("at first, place " + p, x.parting(p), 0);
        }
        x.tear(0);
        Edges.due("torn", x.parting(0), 0);
    }

    private static void partingBad() {
        Edges.badPlaces(GivingHeaps::parting);
    }

    // ---- heap

    private static void heapOf1To18() {
        for (int c = 1; c <= 18; c++) {
            GivingHeaps x = with();
            Edges.due(c + " cards", x.heap(0, c), 1);
            Edges.dueHeaps(c + " cards", x, 0, c);
        }
        int[] off = {0, -1, 19, Edges.MIN, Edges.MAX};
        for (int c : off) {
            Edges.bad(c + " cards", with(5), y -> y.heap(0, c));
        }
    }

    private static void heapWhereItBelongs() {
        GivingHeaps x = with(4);
        x.heap(0, 6);
        Edges.dueHeaps("the greatest", x, 0, 6, 4);
        x.heap(0, 1);
        Edges.dueHeaps("the least", x, 0, 6, 4, 1);
        x.heap(0, 3);
        Edges.dueHeaps("between", x, 0, 6, 4, 3, 1);
        x.heap(0, 4);
        Edges.dueHeaps("alike", x, 0, 6, 4, 4, 3, 1);
    }

    private static void heapTellsHowMany() {
        GivingHeaps x = with();
        for (int many = 1; many <= 18; many++) {
            Edges.due("ones", x.heap(0, 1), many);
        }
    }

    private static void heapBad() {
        Edges.badPlaces((x, p) -> x.heap(p, 1));
    }

    private static void heapNothing() {
        Edges.nothing((x, p) -> x.heap(p, 1));
    }

    private static void heapFullBehindNothing() {
        GivingHeaps x = with(18);
        x.tear(0);
        Edges.found("torn when it was full", x, Edges.NOTHING, y -> y.heap(0, 1));
    }

    private static void heapOfMoreThan18() {
        GivingHeaps x = with(17);
        Edges.full("19 cards", x, y -> y.heap(0, 2));
        Edges.due("18 cards", x.heap(0, 1), 2);
        Edges.full("one more", x, y -> y.heap(0, 1));
        Edges.full("36 cards", with(18), y -> y.heap(0, 18));
        Edges.full("a 19th heap", with(Edges.EIGHTEEN_ONES), y -> y.heap(0, 1));
    }

    // ---- at

    private static void atEachPlace() {
        GivingHeaps x = with(2, 9, 4);
        Edges.due("the first", x.at(0, 0), 9);
        Edges.due("the last", x.at(0, 2), 2);
        Edges.due("the 18th", with(Edges.EIGHTEEN_ONES).at(0, 17), 1);
    }

    private static void atTellsHowMany() {
        Edges.due("empty", with().at(0, -1), 0);
        Edges.due("one heap of 18", with(18).at(0, -1), 1);
        Edges.due("18 heaps", with(Edges.EIGHTEEN_ONES).at(0, -1), 18);
    }

    private static void atBad() {
        Edges.badPlaces((x, p) -> x.at(p, 0));
        Edges.badPlaces((x, p) -> x.at(p, -1));
    }

    private static void atNothing() {
        Edges.nothing((x, p) -> x.at(p, 0));
        Edges.nothing((x, p) -> x.at(p, -1));
        Edges.nothing((x, p) -> x.at(p, 18));
    }

    private static void atBeyond() {
        int[] off = {3, -2, 17, 18, Edges.MIN, Edges.MAX};
        for (int i : off) {
            Edges.found("heap " + i, with(4, 2, 1), Edges.BEYOND, y -> y.at(0, i));
        }
        Edges.found("of an empty one", with(), Edges.BEYOND, y -> y.at(0, 0));
        Edges.found("behind the 18th", with(Edges.EIGHTEEN_ONES), Edges.BEYOND, y -> y.at(0, 18));
        GivingHeaps x = with(4, 2);
        x.take(0, 0);
        Edges.found("where a heap was", x, Edges.BEYOND, y -> y.at(0, 1));
    }

    // ---- take

    private static void takeOut() {
        GivingHeaps x = with(7, 5, 3, 2);
        Edges.due("between", x.take(0, 1), 5);
        Edges.dueHeaps("between", x, 0, 7, 3, 2);
        Edges.due("the last", x.take(0, 2), 2);
        Edges.dueHeaps("the last", x, 0, 7, 3);
        Edges.due("the first", x.take(0, 0), 7);
        Edges.dueHeaps("the first", x, 0, 3);
        Edges.due("the only one", x.take(0, 0), 3);
        Edges.dueHeaps("the only one: empty, not missing", x, 0);
        Edges.due("the room is back", x.heap(0, 18), 1);
    }

    private static void takeOfEighteen() {
        GivingHeaps x = with(Edges.EIGHTEEN_ONES);
        Edges.due("the 18th", x.take(0, 17), 1);
        Edges.due("17 are left", x.told(0, 0), 17);
        Edges.due("one has room", x.heap(0, 1), 18);
    }

    private static void takeBad() {
        Edges.badPlaces((x, p) -> x.take(p, 0));
    }

    private static void takeNothing() {
        Edges.nothing((x, p) -> x.take(p, 0));
        Edges.nothing((x, p) -> x.take(p, -1));
    }

    private static void takeBeyond() {
        int[] off = {3, -1, -2, 17, 18, Edges.MIN, Edges.MAX};
        for (int i : off) {
            Edges.found("heap " + i, with(4, 2, 1), Edges.BEYOND, y -> y.take(0, i));
        }
        Edges.found("of an empty one", with(), Edges.BEYOND, y -> y.take(0, 0));
        Edges.found("behind the 18th", with(Edges.EIGHTEEN_ONES), Edges.BEYOND, y -> y.take(0, 18));
    }

    // ---- tear

    private static void tearIsMissingThen() {
        GivingHeaps x = with(9, 9);
        Edges.put(x, 1);
        Edges.put(x, 2, 5);
        Edges.due("a full one", x.tear(0), 1);
        Edges.due("an empty one", x.tear(1), 1);
        Edges.found("the full one is missing", x, Edges.NOTHING, y -> y.at(0, -1));
        Edges.found("the empty one is missing", x, Edges.NOTHING, y -> y.at(1, -1));
        Edges.dueHeaps("another one stays", x, 2, 5);
    }

    private static void tearBad() {
        Edges.badPlaces(GivingHeaps::tear);
    }

    private static void tearNothing() {
        Edges.nothing(GivingHeaps::tear);
    }

    // ---- copy

    private static void copyToAnother() {
        GivingHeaps x = with(5, 4, 2);
        Edges.put(x, 1, 3);
        x.copy(0, 1, 2, 1);
        Edges.dueHeaps("where they belong", x, 1, 4, 3, 2);
        Edges.dueHeaps("they stay, too", x, 0, 5, 4, 2);
        Edges.put(x, 1);
        x.copy(0, 0, 3, 1);
        Edges.dueHeaps("all, to an empty one", x, 1, 5, 4, 2);
        Edges.put(x, 1);
        x.copy(0, 2, 1, 1);
        Edges.dueHeaps("the last", x, 1, 2);
    }

    private static void copyToItself() {
        GivingHeaps x = with(4, 3, 2);
        x.copy(0, 0, 3, 0);
        Edges.dueHeaps("all", x, 0, 4, 4, 3, 3, 2, 2);
        Edges.put(x, 0, 4, 3, 2);
        x.copy(0, 1, 1, 0);
        Edges.dueHeaps("one", x, 0, 4, 3, 3, 2);
    }

    private static void copyTellsHowMany() {
        GivingHeaps x = with(5, 4, 2);
        Edges.put(x, 1, 3);
        Edges.due("two to one", x.copy(0, 1, 2, 1), 3);
        Edges.due("one to itself", x.copy(0, 2, 1, 0), 4);
        Edges.due("none", x.copy(0, 0, 0, 1), 3);
        Edges.put(x, 2);
        Edges.due("none of an empty one", x.copy(2, 0, 0, 2), 0);
        Edges.put(x, 3, 1, 1, 1, 1, 1, 1, 1, 1, 1);
        Edges.due("nine to nine", x.copy(3, 0, 9, 3), 18);
    }

    private static void copyBad() {
        Edges.badPlaces((x, p) -> x.copy(p, 0, 0, 0));
        Edges.badPlaces((x, p) -> x.copy(0, 0, 0, p));
        Edges.bad("BAD ahead of SIZE, from", with(1), y -> y.copy(12, 0, -1, 0));
        Edges.bad("BAD ahead of SIZE, to", with(1), y -> y.copy(0, 0, -1, -1));
    }

    private static void copySize() {
        int[] off = {-1, -2, Edges.MIN};
        for (int n : off) {
            Edges.found(n + " heaps", with(2, 1), Edges.SIZE, y -> y.copy(0, 0, n, 0));
            Edges.found(n + " heaps, ahead of NOTHING", with(2, 1), Edges.SIZE, y -> y.copy(1, 0, n, 1));
            Edges.found(n + " heaps, ahead of BEYOND", with(2, 1), Edges.SIZE, y -> y.copy(0, 3, n, 0));
            Edges.found(n + " heaps, ahead of BEYOND below", with(2, 1), Edges.SIZE, y -> y.copy(0, -1, n, 0));
        }
        Edges.due("0 heaps are no SIZE", with(2, 1).copy(0, 0, 0, 0), 2);
    }

    private static void copyNothing() {
        Edges.nothing((x, p) -> x.copy(p, 0, 0, (p + 1) % Edges.PLACES));
        Edges.nothing((x, p) -> x.copy((p + 1) % Edges.PLACES, 0, 0, p));
        Edges.nothing((x, p) -> x.copy(p, 0, 0, p));
        Edges.found("from, ahead of BEYOND", with(1), Edges.NOTHING, y -> y.copy(1, -1, 1, 0));
        Edges.found("to, ahead of BEYOND", with(1), Edges.NOTHING, y -> y.copy(0, 1, 1, 1));
        GivingHeaps x = with(18);
        Edges.put(x, 1, 18);
        x.tear(1);
        Edges.found("to one that was full, ahead of FULL", x, Edges.NOTHING, y -> y.copy(0, 0, 1, 1));
    }

    private static void copyBeyond() {
        int[][] off = {{0, 4}, {1, 3}, {2, 2}, {3, 1}, {4, 0}, {4, 1}, {-1, 0}, {-1, 1}, {-1, 4}, {18, 0}, {19, 0},
            {0, Edges.MAX}, {1, Edges.MAX}, {Edges.MAX, 0}, {Edges.MAX, 1}, {Edges.MAX, Edges.MAX}, {Edges.MIN, 0},
            {Edges.MIN, 1}, {Edges.MIN, Edges.MAX}, {-Edges.MAX, Edges.MAX}};
        for (int[] part : off) {
            Edges.found(part[1] + " heaps from " + part[0] + " on", with(3, 2, 1), Edges.BEYOND,
                    y -> y.copy(0, part[0], part[1], 0));
        }
        Edges.found("one of an empty one", with(), Edges.BEYOND, y -> y.copy(0, 0, 1, 0));
        Edges.due("none from behind the last are there", with(3, 2, 1).copy(0, 3, 0, 0), 3);
    }

    private static void copyOfMoreThan18() {
        GivingHeaps x = with(9);
        Edges.due("18 cards", x.copy(0, 0, 1, 0), 2);
        Edges.due("none to a full one", x.copy(0, 0, 0, 0), 2);
        Edges.full("one to a full one", x, y -> y.copy(0, 0, 1, 0));
        GivingHeaps z = with(7, 2, 1);
        Edges.put(z, 1, 9);
        Edges.full("19 cards, none of them comes", z, y -> y.copy(0, 0, 3, 1));
        Edges.due("18 cards to another one", z.copy(0, 0, 2, 1), 3);
        Edges.full("20 cards to itself", z, y -> y.copy(0, 0, 3, 0));
        Edges.full("18 and 18", with(Edges.EIGHTEEN_ONES), y -> y.copy(0, 0, 18, 0));
    }

    private static void copyFullBehindThese() {
        Edges.found("behind SIZE", with(18), Edges.SIZE, y -> y.copy(0, 0, -1, 0));
        Edges.found("behind BEYOND", with(18), Edges.BEYOND, y -> y.copy(0, 0, 2, 0));
    }

    // ---- rule

    private static void ruleTellsWhatItWas() {
        GivingHeaps x = new GivingHeaps();
        int before = 0;
        int[] rules = {3, 2, 2, 1, 0, 0, 3};
        for (int r : rules) {
            Edges.due("rule(" + r + ")", x.rule(r), before);
            Edges.due("it is " + r, x.count(0), r);
            before = r;
        }
    }

    private static void ruleBad() {
        int[] off = {-1, 4, Edges.MIN, Edges.MAX};
        for (int r : off) {
            Edges.bad("rule " + r, Edges.byRule(3, 2), y -> y.rule(r));
        }
    }

    // ---- kind

    private static void kindStillAheadOfRound() {
        Edges.due("2 1", with(2, 1).kind(0), 2);
        Edges.due("1", with(1).kind(0), 2);
        for (int rule = 0; rule < Edges.RULES; rule++) {
            Edges.due("empty by rule " + rule, Edges.byRule(rule).kind(0), 2);
        }
    }

    private static void kindByEachRule() {
        // of 4 cards, in the order of THE LIST: 4, 3 1, 2 2, 2 1 1, 1 1 1 1
        int[][] kinds = {{0, 1, 1, 1, 3}, {3, 0, 3, 0, 2}, {1, 2, 1, 3, 3}, {2, 0, 3, 0, 3}};
        for (int rule = 0; rule < Edges.RULES; rule++) {
            for (int k = 0; k < 5; k++) {
                GivingHeaps x = Edges.byRule(rule);
                x.list(0, 4, k);
                Edges.due("number " + k + " of 4 by rule " + rule, x.kind(0), kinds[rule][k]);
            }
        }
    }

    private static void kindBad() {
        Edges.badPlaces(GivingHeaps::kind);
    }

    private static void kindNothing() {
        Edges.nothing(GivingHeaps::kind);
    }

    // ---- mark

    private static void markIsByTheRule() {
        GivingHeaps x = with(2);
        Edges.due("2 is a ROUND", x.mark(0, 1), 2);
        x.rule(Edges.GREATEST);
        Edges.due("2 by GREATEST is LONELY", x.mark(0, 3), 1);
        Edges.found("and no ROUND", x, Edges.UNLIKE, y -> y.mark(0, 1));
        x.rule(Edges.TWO);
        Edges.due("2 by TWO is STILL", x.mark(0, 2), 0);
    }

    private static void markRound() {
        Edges.due("2 2", with(2, 2).mark(0, 1), 3);
        Edges.due("a STILL one", with(2, 1).mark(0, 1), 1);
        Edges.due("an empty one", with().mark(0, 1), 1);
    }

    private static void markStill() {
        Edges.due("3 2 1", with(3, 2, 1).mark(0, 2), 5);
        Edges.due("an empty one", with().mark(0, 2), 0);
        Edges.due("18 ones by GREATEST", Edges.byRule(Edges.GREATEST, Edges.EIGHTEEN_ONES).mark(0, 2), 384);
    }

    private static void markLonely() {
        Edges.due("1 1 1", with(1, 1, 1).mark(0, 3), 2);
        Edges.due("18 by GREATEST", Edges.byRule(Edges.GREATEST, 18).mark(0, 3), 17);
    }

    private static void markBad() {
        Edges.badPlaces((x, p) -> x.mark(p, 1));
    }

    private static void markOfAnotherKind() {
        int[] off = {0, -1, 4, Edges.MIN, Edges.MAX};
        for (int kind : off) {
            Edges.bad("KIND " + kind, with(3), y -> y.mark(0, kind));
            Edges.bad("KIND " + kind + " of a STILL one", with(2, 1), y -> y.mark(0, kind));
            Edges.bad("KIND " + kind + " of a missing one", with(3), y -> y.mark(1, kind));
        }
    }

    private static void markNothing() {
        for (int k = 1; k <= 3; k++) {
            int kind = k;
            Edges.nothing((x, p) -> x.mark(p, kind));
        }
    }

    private static void markUnlike() {
        Edges.found("STILL as LONELY", with(2, 1), Edges.UNLIKE, y -> y.mark(0, 3));
        Edges.found("ROUND as STILL", with(2), Edges.UNLIKE, y -> y.mark(0, 2));
        Edges.found("ROUND as LONELY", with(2), Edges.UNLIKE, y -> y.mark(0, 3));
        Edges.found("LONELY as ROUND", with(1, 1, 1), Edges.UNLIKE, y -> y.mark(0, 1));
        Edges.found("LONELY as STILL", with(1, 1, 1), Edges.UNLIKE, y -> y.mark(0, 2));
        for (int k = 1; k <= 3; k++) {
            int kind = k;
            Edges.found("a mere PARTING as " + k, with(3), Edges.UNLIKE, y -> y.mark(0, kind));
        }
    }

    // ---- mean

    private static void meanIsCut() {
        Edges.due("7 2: 4 and a half", with(7, 2).mean(0), 4);
        Edges.due("6 2", with(6, 2).mean(0), 4);
        Edges.due("2 2 1: nearly 2", with(2, 2, 1).mean(0), 1);
        Edges.due("18", with(18).mean(0), 18);
        Edges.due("18 ones", with(Edges.EIGHTEEN_ONES).mean(0), 1);
    }

    private static void meanBad() {
        Edges.badPlaces(GivingHeaps::mean);
    }

    private static void meanNothing() {
        Edges.nothing(GivingHeaps::mean);
    }

    private static void meanNought() {
        Edges.found("empty at first", with(), Edges.NOUGHT, y -> y.mean(0));
        GivingHeaps x = with(3);
        x.take(0, 0);
        Edges.found("all taken", x, Edges.NOUGHT, y -> y.mean(0));
        x.list(0, 0, 0);
        Edges.found("of THE LIST of 0", x, Edges.NOUGHT, y -> y.mean(0));
    }

    static void run() {
        runNewAndParting();
        runHeapAndAt();
        runTakeAndTear();
        runCopy();
        runRuleAndKind();
        runMarkAndMean();
    }

    private static void runNewAndParting() {
        Edges.section("Promise 1: A new object");
        Edges.edge("No PARTINGS;", EdgesOfPartings::newHasNoPartings);
        Edges.edge("THE RULE 0.", EdgesOfPartings::newHasRule0);
        Edges.section("Promise 2: parting");
        Edges.edge("A PARTING is there, empty:", EdgesOfPartings::partingIsThereEmpty);
        Edges.edge("1 if it was there,", EdgesOfPartings::partingThatWasThere);
        Edges.edge("else 0.", EdgesOfPartings::partingThatWasMissing);
        Edges.edge("BAD.", EdgesOfPartings::partingBad);
    }

    private static void runHeapAndAt() {
        Edges.section("Promise 3: heap");
        Edges.edge("A heap of c cards (1 .. 18)", EdgesOfPartings::heapOf1To18);
        Edges.edge("comes to a PARTING, where it belongs:", EdgesOfPartings::heapWhereItBelongs);
        Edges.edge("how many heaps it has.", EdgesOfPartings::heapTellsHowMany);
        Edges.edge("BAD;", EdgesOfPartings::heapBad);
        Edges.edge("NOTHING;", EdgesOfPartings::heapNothing);
        Edges.edge("FULL (behind NOTHING):", EdgesOfPartings::heapFullBehindNothing);
        Edges.edge("more than 18 cards.", EdgesOfPartings::heapOfMoreThan18);
        Edges.section("Promise 4: at");
        Edges.edge("Heap i of a PARTING;", EdgesOfPartings::atEachPlace);
        Edges.edge("- 1: how many.", EdgesOfPartings::atTellsHowMany);
        Edges.edge("BAD;", EdgesOfPartings::atBad);
        Edges.edge("NOTHING;", EdgesOfPartings::atNothing);
        Edges.edge("BEYOND.", EdgesOfPartings::atBeyond);
    }

    private static void runTakeAndTear() {
        Edges.section("Promise 5: take");
        Edges.edge("A heap i is taken out: its cards.", EdgesOfPartings::takeOut);
        Edges.edge("A heap i is taken out:", EdgesOfPartings::takeOfEighteen);
        Edges.edge("BAD;", EdgesOfPartings::takeBad);
        Edges.edge("NOTHING;", EdgesOfPartings::takeNothing);
        Edges.edge("BEYOND.", EdgesOfPartings::takeBeyond);
        Edges.section("Promise 6: tear");
        Edges.edge("A PARTING is missing: 1.", EdgesOfPartings::tearIsMissingThen);
        Edges.edge("BAD;", EdgesOfPartings::tearBad);
        Edges.edge("NOTHING.", EdgesOfPartings::tearNothing);
    }

    private static void runCopy() {
        Edges.section("Promise 7: copy");
        Edges.edge("n heaps of a PARTING, from one on, come to another one", EdgesOfPartings::copyToAnother);
        Edges.edge("(perhaps itself), too:", EdgesOfPartings::copyToItself);
        Edges.edge("how many heaps that has.", EdgesOfPartings::copyTellsHowMany);
        Edges.edge("BAD;", EdgesOfPartings::copyBad);
        Edges.edge("SIZE: n below 0;", EdgesOfPartings::copySize);
        Edges.edge("NOTHING: either;", EdgesOfPartings::copyNothing);
        Edges.edge("BEYOND: not so many there;", EdgesOfPartings::copyBeyond);
        Edges.edge("FULL (behind these):", EdgesOfPartings::copyFullBehindThese);
        Edges.edge("more than 18 cards.", EdgesOfPartings::copyOfMoreThan18);
    }

    private static void runRuleAndKind() {
        Edges.section("Promise 8: rule");
        Edges.edge("THE RULE is r: what it was.", EdgesOfPartings::ruleTellsWhatItWas);
        Edges.edge("BAD.", EdgesOfPartings::ruleBad);
        Edges.section("Promise 9: kind");
        Edges.edge("The KIND of a PARTING", EdgesOfPartings::kindByEachRule);
        Edges.edge("(STILL ahead of ROUND).", EdgesOfPartings::kindStillAheadOfRound);
        Edges.edge("BAD;", EdgesOfPartings::kindBad);
        Edges.edge("NOTHING.", EdgesOfPartings::kindNothing);
    }

    private static void runMarkAndMean() {
        Edges.section("Promise 10: mark");
        Edges.edge("What a PARTING that IS of a KIND tells:", EdgesOfPartings::markIsByTheRule);
        Edges.edge("a ROUND its BEAT (1; a STILL one IS a ROUND),", EdgesOfPartings::markRound);
        Edges.edge("a STILL one its number in THE LIST (2),", EdgesOfPartings::markStill);
        Edges.edge("a LONELY one its TAIL (3).", EdgesOfPartings::markLonely);
        Edges.edge("BAD:", EdgesOfPartings::markBad);
        Edges.edge("BAD: also another KIND;", EdgesOfPartings::markOfAnotherKind);
        Edges.edge("NOTHING;", EdgesOfPartings::markNothing);
        Edges.edge("UNLIKE.", EdgesOfPartings::markUnlike);
        Edges.section("Promise 11: mean");
        Edges.edge("The mean heap of a PARTING, cut.", EdgesOfPartings::meanIsCut);
        Edges.edge("BAD;", EdgesOfPartings::meanBad);
        Edges.edge("NOTHING;", EdgesOfPartings::meanNothing);
        Edges.edge("NOUGHT: it has none.", EdgesOfPartings::meanNought);
    }
}
