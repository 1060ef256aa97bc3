/** The edges of promises 12 to 15: the list. */
final class EdgesOfLists {
    private EdgesOfLists() {
    }

    private static GivingHeaps with(int... heaps) {
        return Edges.with(heaps);
    }

    // ---- many

    private static void manyOfEach() {
        int[] many = {1, 1, 2, 3, 5, 7, 11, 15, 22, 30, 42, 56, 77, 101, 135, 176, 231, 297, 385};
        GivingHeaps x = new GivingHeaps();
        for (int n = 0; n <= 18; n++) {
            Edges.due("of " + n, x.many(n), many[n]);
        }
    }

    private static void manyBad() {
        int[] off = {-1, 19, Edges.MIN, Edges.MAX};
        for (int n : off) {
            Edges.bad("of " + n, new GivingHeaps(), y -> y.many(n));
        }
    }

    // ---- rank

    private static void rankFirstAndLast() {
        Edges.due("empty", with().rank(0), 0);
        Edges.due("18", with(18).rank(0), 0);
        Edges.due("17 1", with(17, 1).rank(0), 1);
        Edges.due("2 and 16 ones", with(2, 1, 1, 1, 1, 1, 1, 1, 1, 1, 1, 1, 1, 1, 1, 1, 1).rank(0), 383);
        Edges.due("18 ones", with(Edges.EIGHTEEN_ONES).rank(0), 384);
        Edges.due("by its own cards", with(1).rank(0), 0);
    }

    private static void rankBad() {
        Edges.badPlaces(GivingHeaps::rank);
    }

    private static void rankNothing() {
        Edges.nothing(GivingHeaps::rank);
    }

    // ---- list

    private static void listIsThereThen() {
        for (int p = 0; p < Edges.PLACES; p++) {
            GivingHeaps x = new GivingHeaps();
            x.list(p, 3, 1);
            Edges.dueHeaps("missing before, place " + p, x, p, 2, 1);
            Edges.due("no other one is there", x.count(1), 1);
        }
        GivingHeaps x = with(7, 6);
        x.tear(0);
        x.list(0, 0, 0);
        Edges.dueHeaps("torn before", x, 0);
    }

    private static void listBecomesNumberK() {
        int[][] ofFive = {{5}, {4, 1}, {3, 2}, {3, 1, 1}, {2, 2, 1}, {2, 1, 1, 1}, {1, 1, 1, 1, 1}};
        GivingHeaps x = with(9, 9);
        for (int k = 0; k < ofFive.length; k++) {
            Edges.due("number " + k, x.list(0, 5, k), 1);
            Edges.dueHeaps("number " + k, x, 0, ofFive[k]);
        }
        Edges.due("of 0", x.list(0, 0, 0), 1);
        Edges.dueHeaps("of 0", x, 0);
        Edges.due("last of 18", x.list(0, 18, 384), 1);
        Edges.dueHeaps("last of 18", x, 0, Edges.EIGHTEEN_ONES);
    }

    private static void listNone() {
        int[][] off = {{0, 1}, {1, 1}, {5, 7}, {18, 385}, {5, -1}, {5, Edges.MAX}, {5, Edges.MIN}, {18, Edges.MIN}};
        for (int[] number : off) {
            String what = "number " + number[1] + " of " + number[0];
            Edges.none(what, with(2, 1), y -> y.list(0, number[0], number[1]));
            Edges.none(what + ", for a missing one", with(2, 1), y -> y.list(1, number[0], number[1]));
        }
    }

    private static void listBad() {
        Edges.badPlaces((x, p) -> x.list(p, 4, 0));
        Edges.badPlaces((x, p) -> x.list(p, 4, 5));
        int[] off = {-1, 19, Edges.MIN, Edges.MAX};
        for (int n : off) {
            Edges.bad("of " + n, with(2, 1), y -> y.list(0, n, 0));
            Edges.bad("of " + n + ", ahead of NONE", with(2, 1), y -> y.list(0, n, -1));
            Edges.bad("of " + n + ", for a missing one", with(2, 1), y -> y.list(1, n, 0));
        }
    }

    // ---- turn

    private static void turnOnItsSide() {
        GivingHeaps x = with(6, 3, 3, 1);
        x.turn(0);
        Edges.dueHeaps("6 3 3 1", x, 0, 4, 3, 3, 1, 1, 1);
        x.turn(0);
        Edges.dueHeaps("and back", x, 0, 6, 3, 3, 1);
        Edges.put(x, 0, 3, 1, 1);
        x.turn(0);
        Edges.dueHeaps("alike", x, 0, 3, 1, 1);
        Edges.put(x, 0, 1);
        x.turn(0);
        Edges.dueHeaps("1", x, 0, 1);
    }

    private static void turnTellsHowMany() {
        Edges.due("18", with(18).turn(0), 18);
        Edges.due("18 ones", with(Edges.EIGHTEEN_ONES).turn(0), 1);
        Edges.due("9 9", with(9, 9).turn(0), 9);
        Edges.due("empty", with().turn(0), 0);
    }

    private static void turnBad() {
        Edges.badPlaces(GivingHeaps::turn);
    }

    private static void turnNothing() {
        Edges.nothing(GivingHeaps::turn);
    }

    static void run() {
        Edges.section("Promise 12: many");
        Edges.edge("How many PARTINGS THE LIST of n has.", EdgesOfLists::manyOfEach);
        Edges.edge("BAD.", EdgesOfLists::manyBad);
        Edges.section("Promise 13: rank");
        Edges.edge("The number of a PARTING in THE LIST.", EdgesOfLists::rankFirstAndLast);
        Edges.edge("BAD;", EdgesOfLists::rankBad);
        Edges.edge("NOTHING.", EdgesOfLists::rankNothing);
        Edges.section("Promise 14: list");
        Edges.edge("PARTING p (there then)", EdgesOfLists::listIsThereThen);
        Edges.edge("becomes number k of THE LIST of n: 1;", EdgesOfLists::listBecomesNumberK);
        Edges.edge("NONE: none such.", EdgesOfLists::listNone);
        Edges.edge("BAD.", EdgesOfLists::listBad);
        Edges.section("Promise 15: turn");
        Edges.edge("A PARTING is TURNED on its side:", EdgesOfLists::turnOnItsSide);
        Edges.edge("how many heaps it has then.", EdgesOfLists::turnTellsHowMany);
        Edges.edge("BAD;", EdgesOfLists::turnBad);
        Edges.edge("NOTHING.", EdgesOfLists::turnNothing);
    }
}
