import java.util.ArrayList;
import java.util.Collections;
import java.util.HashMap;
import java.util.List;
import java.util.Map;
import java.util.Random;
import java.util.TreeSet;

/** A second program, slow and by the document's words, compared with the class over whole lists and long runs. */
public final class ModelTests {
    private static final int BAD = -1, FULL = -2, FINDING = -3, NONE = -9;
    private static final int RUNS = 1500;
    private static final int CALLS = 512;
    private static final int LAST_LOOKS = 7;
    private static int wrong = 0;

    private static void due(String where, String call, long got, long want) {
        if (got != want) {
            wrong++;
            if (wrong <= 40) {
                System.out.println(where + ": " + call + " answered " + got + ", due is " + want);
            }
        }
    }

    // ---- partings as lists of numbers

    private static List<Integer> sorted(List<Integer> heaps) {
        List<Integer> out = new ArrayList<>(heaps);
        out.removeIf(c -> c == 0);
        out.sort(Collections.reverseOrder());
        return out;
    }

    private static int cards(List<Integer> heaps) {
        int sum = 0;
        for (int c : heaps) {
            sum += c;
        }
        return sum;
    }

    private static final Map<Integer, List<List<Integer>>> LISTS = new HashMap<>();

    private static List<List<Integer>> listOf(int n) {
        return LISTS.computeIfAbsent(n, k -> {
            List<List<Integer>> all = new ArrayList<>();
            addAll(all, new ArrayList<>(), n, n);
            return all;
        });
    }

    private static void addAll(List<List<Integer>> all, List<Integer> begun, int left, int most) {
        if (left == 0) {
            all.add(new ArrayList<>(begun));
        }
        for (int c = Math.min(left, most); c >= 1; c--) {
            begun.add(c);
            addAll(all, begun, left - c, c);
            begun.remove(begun.size() - 1);
        }
    }

    private static int number(List<Integer> heaps) {
        return listOf(cards(heaps)).indexOf(heaps);
    }

    private static List<Integer> stepped(List<Integer> heaps, int rule) {
        List<Integer> out = new ArrayList<>(heaps);
        if (heaps.isEmpty()) {
            return out;
        }
        int given = 0;
        if (rule == 0 || rule == 2) {
            for (int i = 0; i < out.size(); i++) {
                int gift = rule == 2 && out.get(i) > 1 ? 2 : 1;
                out.set(i, out.get(i) - gift);
                given += gift;
            }
            out.add(given);
        } else if (rule == 1) {
            out.set(0, out.get(0) - 1);
            out.add(1);
        } else {
            int last = out.remove(out.size() - 1);
            for (int i = 0; i < out.size() && last > 0; i++) {
                out.set(i, out.get(i) + 1);
                last--;
            }
            out.add(last);
        }
        return sorted(out);
    }

    private static final Map<Integer, List<Integer>> NEXT = new HashMap<>();

    /** The numbers to which the numbers of a list step. */
    private static List<Integer> nextOf(int n, int rule) {
        return NEXT.computeIfAbsent(n * 4 + rule, k -> {
            List<Integer> out = new ArrayList<>();
            for (List<Integer> heaps : listOf(n)) {
                out.add(number(stepped(heaps, rule)));
            }
            return out;
        });
    }

    /** The numbers of a way, till one comes again. */
    private static List<Integer> way(int n, int rule, int number) {
        List<Integer> out = new ArrayList<>();
        int here = number;
        while (!out.contains(here)) {
            out.add(here);
            here = nextOf(n, rule).get(here);
        }
        return out;
    }

    private static int tailOf(int n, int rule, int number) {
        List<Integer> way = way(n, rule, number);
        return way.indexOf(nextOf(n, rule).get(way.get(way.size() - 1)));
    }

    private static int beatOf(int n, int rule, int number) {
        return way(n, rule, number).size() - tailOf(n, rule, number);
    }

    private static int leaderOf(int n, int rule, int number) {
        List<Integer> way = way(n, rule, number);
        return Collections.min(way.subList(tailOf(n, rule, number), way.size()));
    }

    private static List<Integer> comers(int n, int rule, int number) {
        List<Integer> out = new ArrayList<>();
        for (int k = 0; k < listOf(n).size(); k++) {
            if (nextOf(n, rule).get(k) == number) {
                out.add(k);
            }
        }
        return out;
    }

    private static int kindOf(int n, int rule, int number) {
        if (nextOf(n, rule).get(number) == number) {
            return 2;
        }
        if (tailOf(n, rule, number) == 0) {
            return 1;
        }
        return comers(n, rule, number).isEmpty() ? 3 : 0;
    }

    private static TreeSet<Integer> leaders(int n, int rule) {
        TreeSet<Integer> out = new TreeSet<>();
        for (int k = 0; k < listOf(n).size(); k++) {
            out.add(leaderOf(n, rule, k));
        }
        return out;
    }

    private static final Map<Integer, int[]> ROUNDS = new HashMap<>();

    private static int[] roundsOf(int n, int rule) {
        return ROUNDS.computeIfAbsent(n * 4 + rule, key -> {
            int[] out = {leaders(n, rule).size(), 0, 0, 0, 0};
            for (int k = 0; k < listOf(n).size(); k++) {
                out[1] += tailOf(n, rule, k) == 0 ? 1 : 0;
                out[2] = Math.max(out[2], tailOf(n, rule, k));
                out[3] += comers(n, rule, k).isEmpty() ? 1 : 0;
                out[4] = Math.max(out[4], beatOf(n, rule, k));
            }
            return out;
        });
    }

    private static List<Integer> turned(List<Integer> heaps) {
        List<Integer> out = new ArrayList<>();
        for (int i = 0; i < 18; i++) {
            int sum = 0;
            for (int c : heaps) {
                sum += c >= i + 1 ? 1 : 0;
            }
            out.add(sum);
        }
        out.removeIf(c -> c == 0);
        return out;
    }

    // ---- mixed, each of the 2 to the number of heaps choices by itself

    private static final Map<List<Integer>, Map<List<Integer>, Long>> MIXED = new HashMap<>();

    private static Map<List<Integer>, Long> mixed(List<Integer> heaps) {
        Map<List<Integer>, Long> known = MIXED.get(heaps);
        if (known != null) {
            return known;
        }
        Map<List<Integer>, Long> out = new HashMap<>();
        for (int choice = 0; choice < 1 << heaps.size(); choice++) {
            List<Integer> after = new ArrayList<>();
            int given = 0;
            for (int i = 0; i < heaps.size(); i++) {
                int gift = choice >> i & 1;
                after.add(heaps.get(i) - gift);
                given += gift;
            }
            after.add(given);
            out.merge(sorted(after), 1L, Long::sum);
        }
        MIXED.put(new ArrayList<>(heaps), out);
        return out;
    }

    private static long walksOf(List<Integer> start, List<Integer> end, int k) {
        Map<List<Integer>, Long> now = new HashMap<>();
        now.put(start, 1L);
        for (int i = 0; i < k; i++) {
            Map<List<Integer>, Long> later = new HashMap<>();
            for (Map.Entry<List<Integer>, Long> from : now.entrySet()) {
                for (Map.Entry<List<Integer>, Long> to : mixed(from.getKey()).entrySet()) {
                    later.merge(to.getKey(), from.getValue() * to.getValue(), Long::sum);
                }
            }
            now = later;
        }
        return now.getOrDefault(end, 0L);
    }

    // ---- the calls

    /** The state of an object, and the answers that are due. */
    private static final class Model {
        final List<List<Integer>> partings = new ArrayList<>(Collections.nCopies(12, null));
        final int[] found = new int[6];
        int rule;
        int latest;
        long walks;

        int find(int f) {
            found[f]++;
            latest = f;
            return FINDING;
        }

        static boolean off(int p) {
            return p < 0 || p > 11;
        }

        static boolean offCards(int n) {
            return n < 0 || n > 18;
        }

        int simple(String call, int p, int a) {
            if (off(p)) {
                return BAD;
            }
            List<Integer> heaps = partings.get(p);
            if (call.equals("heap") && (a < 1 || a > 18) || call.equals("mark") && (a < 1 || a > 3)
                    || call.equals("step") && (a < 0 || a > 1000) || call.equals("told") && (a < 0 || a > 3)) {
                return BAD;
            }
            if (call.equals("parting")) {
                partings.set(p, new ArrayList<>());
                return heaps == null ? 0 : 1;
            }
            if (heaps == null) {
                return find(1);
            }
            return onHeaps(call, p, heaps, a);
        }

        int onHeaps(String call, int p, List<Integer> heaps, int a) {
            int n = cards(heaps);
            int k = number(heaps);
            boolean place = a >= 0 && a < heaps.size();
            switch (call) {
                case "heap": return n + a > 18 ? FULL : become(p, joined(heaps, List.of(a)));
                case "at": return a == -1 ? heaps.size() : place ? heaps.get(a) : find(2);
                case "take": return place ? heaps.remove(a) : find(2);
                case "tear": partings.set(p, null); return 1;
                case "kind": return kindOf(n, rule, k);
                case "mark": return marked(n, k, a);
                case "mean": return heaps.isEmpty() ? find(4) : n / heaps.size();
                case "rank": return k;
                case "turn": return become(p, turned(heaps));
                case "step": return become(p, after(heaps, a));
                case "tail": return tailOf(n, rule, k);
                case "beat": return beatOf(n, rule, k);
                case "leader": return leaderOf(n, rule, k);
                case "from": return comers(n, rule, k).size();
                case "fromAt": return pick(comers(n, rule, k), a);
                case "reach": return mixed(heaps).size();
                case "told": return new int[] {n, heaps.size(), heaps.isEmpty() ? 0 : heaps.get(0),
                    new TreeSet<>(heaps).size()}[a];
                default: throw new IllegalStateException(call);
            }
        }

        int become(int p, List<Integer> heaps) {
            partings.set(p, new ArrayList<>(heaps));
            return heaps.size();
        }

        static int pick(List<Integer> of, int i) {
            return i >= 0 && i < of.size() ? of.get(i) : NONE;
        }

        static List<Integer> joined(List<Integer> one, List<Integer> other) {
            List<Integer> out = new ArrayList<>(one);
            out.addAll(other);
            return sorted(out);
        }

        int marked(int n, int k, int kind) {
            int own = kindOf(n, rule, k);
            if (kind == 1) {
                return own == 1 || own == 2 ? beatOf(n, rule, k) : find(3);
            }
            return own != kind ? find(3) : kind == 2 ? k : tailOf(n, rule, k);
        }

        List<Integer> after(List<Integer> heaps, int many) {
            List<Integer> out = heaps;
            for (int i = 0; i < many; i++) {
                out = stepped(out, rule);
            }
            return out;
        }

        int copy(int p, int i, int n, int to) {
            if (off(p) || off(to)) {
                return BAD;
            }
            if (n < 0) {
                return find(5);
            }
            if (partings.get(p) == null || partings.get(to) == null) {
                return find(1);
            }
            if (i < 0 || (long) i + n > partings.get(p).size()) {
                return find(2);
            }
            List<Integer> all = joined(partings.get(to), partings.get(p).subList(i, i + n));
            return cards(all) > 18 ? FULL : become(to, all);
        }

        int setRule(int r) {
            if (r < 0 || r > 3) {
                return BAD;
            }
            int before = rule;
            rule = r;
            return before;
        }

        int list(int p, int n, int k) {
            if (off(p) || offCards(n)) {
                return BAD;
            }
            if (k < 0 || k >= listOf(n).size()) {
                return NONE;
            }
            become(p, listOf(n).get(k));
            return 1;
        }

        int pair(String call, int p, int q, int k) {
            if (off(p) || off(q) || call.equals("walks") && (k < 0 || k > 3)) {
                return BAD;
            }
            List<Integer> start = partings.get(p);
            List<Integer> end = partings.get(q);
            if (start == null || end == null) {
                return find(1);
            }
            switch (call) {
                case "ways": return (int) (long) mixed(start).getOrDefault(end, 0L);
                case "steps": return cards(start) != cards(end) ? NONE
                    : stepsTo(way(cards(start), rule, number(start)), number(end));
                default: walks = walksOf(start, end, k); return 1;
            }
        }

        static int stepsTo(List<Integer> way, int number) {
            return way.contains(number) ? way.indexOf(number) : NONE;
        }

        int counted(int what) {
            int there = 0;
            int all = 0;
            for (List<Integer> heaps : partings) {
                there += heaps == null ? 0 : 1;
                all += heaps == null ? 0 : cards(heaps);
            }
            return what == 0 ? rule : what == 1 ? there : what == 2 ? all : BAD;
        }

        long digest() {
            long h = 31L * 17 + rule;
            for (List<Integer> heaps : partings) {
                h = 31 * h + (heaps == null ? -1 : heaps.size());
                for (int c : heaps == null ? List.<Integer>of() : heaps) {
                    h = 31 * h + c;
                }
            }
            return h;
        }
    }

    // ---- runs

    private static final String[] SIMPLE = {"parting", "heap", "heap", "heap", "heap", "at", "take", "tear", "kind",
        "mark", "mean", "rank", "turn", "step", "tail", "beat", "leader", "from", "fromAt", "reach", "told"};
    private static final String[] OTHERS = {"copy", "copy", "rule", "many", "list", "list", "rounds", "ring", "steps",
        "ways", "walks", "asked", "count", "finding", "findings", "digest"};

    private static int simple(GivingHeaps x, String call, int p, int a) {
        switch (call) {
            case "parting": return x.parting(p);
            case "heap": return x.heap(p, a);
            case "at": return x.at(p, a);
            case "take": return x.take(p, a);
            case "tear": return x.tear(p);
            case "kind": return x.kind(p);
            case "mark": return x.mark(p, a);
            case "mean": return x.mean(p);
            case "rank": return x.rank(p);
            case "turn": return x.turn(p);
            case "step": return x.step(p, a);
            case "tail": return x.tail(p);
            case "beat": return x.beat(p);
            case "leader": return x.leader(p);
            case "from": return x.from(p);
            case "fromAt": return x.fromAt(p, a);
            case "reach": return x.reach(p);
            case "told": return x.told(p, a);
            default: throw new IllegalStateException(call);
        }
    }

    /** A number of 0 .. most, now and then a little or far off. */
    private static int some(Random random, int most) {
        int way = random.nextInt(40);
        if (way == 0) {
            int[] ends = {Integer.MIN_VALUE, Integer.MAX_VALUE, Integer.MIN_VALUE + 1, Integer.MAX_VALUE - 1, -19, 400};
            return ends[random.nextInt(ends.length)];
        }
        return way == 1 ? -1 : way == 2 ? most + 1 : random.nextInt(most + 1);
    }

    private static int bound(String call) {
        switch (call) {
            case "heap": return 6;
            case "at": case "take": return 5;
            case "step": return 12;
            default: return 3;
        }
    }

    private static void callSimple(String where, GivingHeaps x, Model model, Random random) {
        String call = SIMPLE[random.nextInt(SIMPLE.length)];
        // tearing and emptying would outweigh filling
        if ((call.equals("tear") || call.equals("parting")) && random.nextInt(3) > 0) {
            return;
        }
        int p = some(random, random.nextBoolean() ? 3 : 11);
        int a = some(random, bound(call));
        due(where, call + "(" + p + ", " + a + ")", simple(x, call, p, a), model.simple(call, p, a));
    }

    /** What the calls of more kinds of arguments are given; each takes those that it needs. */
    private record Args(int p, int q, int n, int i, int k) {
    }

    private static void callOther(String where, GivingHeaps x, Model model, Random random) {
        String call = OTHERS[random.nextInt(OTHERS.length)];
        int p = some(random, random.nextBoolean() ? 3 : 11);
        int q = some(random, random.nextBoolean() ? 3 : 11);
        int n = some(random, call.equals("copy") || random.nextBoolean() ? 3 : 18);
        int i = some(random, 4);
        int k = some(random, random.nextBoolean() ? 20 : 384);
        compareOther(where, x, model, call, new Args(p, q, n, i, k));
    }

    private static void compareOther(String where, GivingHeaps x, Model model, String call, Args args) {
        int p = args.p();
        int q = args.q();
        int n = args.n();
        int i = args.i();
        int k = args.k();
        String told = call + " of " + args;
        boolean offN = Model.offCards(n);
        switch (call) {
            case "copy": due(where, told, x.copy(p, i, n, q), model.copy(p, i, n, q)); break;
            case "rule": due(where, told, x.rule(i), model.setRule(i)); break;
            case "many": due(where, told, x.many(n), offN ? BAD : listOf(n).size()); break;
            case "list": due(where, told, x.list(p, n, k), model.list(p, n, k)); break;
            case "rounds": due(where, told, x.rounds(n, i),
                offN || i < 0 || i > 4 ? BAD : roundsOf(n, model.rule)[i]); break;
            case "ring": due(where, told, x.ring(n, i),
                offN ? BAD : Model.pick(new ArrayList<>(leaders(n, model.rule)), i)); break;
            case "steps": due(where, told, x.steps(p, q), model.pair("steps", p, q, 0)); break;
            case "ways": due(where, told, x.ways(p, q), model.pair("ways", p, q, 0)); break;
            case "walks": due(where, told, x.walks(p, q, i), model.pair("walks", p, q, i)); break;
            case "asked": due(where, told, x.asked(), model.walks); break;
            case "count": due(where, told, x.count(i), model.counted(i)); break;
            case "finding": due(where, told, x.finding(), model.latest); break;
            case "findings": due(where, told, x.findings(k), k < 1 || k > 5 ? BAD : model.found[k]); break;
            default: due(where, told, x.digest(), model.digest()); break;
        }
    }

    private static void run(int seed) {
        Random random = new Random(seed);
        GivingHeaps x = new GivingHeaps();
        Model model = new Model();
        for (int call = 0; call < CALLS - LAST_LOOKS; call++) {
            if (random.nextInt(5) < 3) {
                callSimple("run " + seed + ", call " + call, x, model, random);
            } else {
                callOther("run " + seed + ", call " + call, x, model, random);
            }
        }
        lastLooks("run " + seed, x, model);
    }

    private static void lastLooks(String where, GivingHeaps x, Model model) {
        due(where, "digest()", x.digest(), model.digest());
        due(where, "asked()", x.asked(), model.walks);
        for (int f = 1; f <= 5; f++) {
            due(where, "findings(" + f + ")", x.findings(f), model.found[f]);
        }
    }

    // ---- each call with each argument at its edges, on new, empty, full and other objects

    private static final int MIN = Integer.MIN_VALUE, MAX = Integer.MAX_VALUE;
    private static final int[] ANY = {0};
    private static final int[] SOME_PLACES = {MIN, -1, 0, 1, 2, 11, 12, MAX};
    private static final int[] NUMBERS = {MIN, -2, -1, 0, 1, 2, 3, 4, 5, 6, 17, 18, 19, 384, 385, 1000, 1001, MAX};
    private static final int[] FEW_NUMBERS = {MIN, -1, 0, 1, 2, 3, 4, 17, 18, 19, MAX};
    // place, cards, number in the list; what is not told is missing
    private static final int[][][] STATES = {{}, {{0, 0, 0}, {1, 0, 0}, {11, 0, 0}},
        {{0, 18, 384}, {1, 18, 0}, {11, 18, 100}}, {{0, 9, 20}, {1, 9, 0}, {11, 17, 5}}, {{0, 4, 1}, {1, 4, 3}}};

    private static void prepare(int state, int rule, GivingHeaps x, Model model) {
        x.rule(rule);
        model.setRule(rule);
        for (int[] put : STATES[state]) {
            x.list(put[0], put[1], put[2]);
            model.list(put[0], put[1], put[2]);
        }
        x.walks(0, 0, 1);
        model.pair("walks", 0, 0, 1);
    }

    private static void simpleAtEdges(int state, int rule) {
        String where = "state " + state + ", rule " + rule;
        for (String call : new TreeSet<>(List.of(SIMPLE))) {
            for (int p : SOME_PLACES) {
                for (int a : NUMBERS) {
                    GivingHeaps x = new GivingHeaps();
                    Model model = new Model();
                    prepare(state, rule, x, model);
                    due(where, call + "(" + p + ", " + a + ")", simple(x, call, p, a), model.simple(call, p, a));
                    lastLooks(where + ", behind " + call + "(" + p + ", " + a + ")", x, model);
                }
            }
        }
    }

    private static void othersAtEdges(int state, int rule) {
        String where = "state " + state + ", rule " + rule;
        otherAtEdges(where, state, rule, "copy", SOME_PLACES, SOME_PLACES, FEW_NUMBERS, FEW_NUMBERS, ANY);
        otherAtEdges(where, state, rule, "rule", ANY, ANY, ANY, NUMBERS, ANY);
        otherAtEdges(where, state, rule, "many", ANY, ANY, NUMBERS, ANY, ANY);
        otherAtEdges(where, state, rule, "list", SOME_PLACES, ANY, NUMBERS, ANY, NUMBERS);
        otherAtEdges(where, state, rule, "rounds", ANY, ANY, NUMBERS, NUMBERS, ANY);
        otherAtEdges(where, state, rule, "ring", ANY, ANY, NUMBERS, NUMBERS, ANY);
        otherAtEdges(where, state, rule, "steps", SOME_PLACES, SOME_PLACES, ANY, ANY, ANY);
        otherAtEdges(where, state, rule, "ways", SOME_PLACES, SOME_PLACES, ANY, ANY, ANY);
        otherAtEdges(where, state, rule, "walks", SOME_PLACES, SOME_PLACES, ANY, FEW_NUMBERS, ANY);
        otherAtEdges(where, state, rule, "count", ANY, ANY, ANY, NUMBERS, ANY);
        otherAtEdges(where, state, rule, "findings", ANY, ANY, ANY, ANY, NUMBERS);
    }

    private static void otherAtEdges(String where, int state, int rule, String call, int[]... edges) {
        for (int p : edges[0]) {
            for (int q : edges[1]) {
                for (int n : edges[2]) {
                    for (int i : edges[3]) {
                        for (int k : edges[4]) {
                            GivingHeaps x = new GivingHeaps();
                            Model model = new Model();
                            prepare(state, rule, x, model);
                            Args args = new Args(p, q, n, i, k);
                            compareOther(where, x, model, call, args);
                            lastLooks(where + ", behind " + call + " of " + args, x, model);
                        }
                    }
                }
            }
        }
    }

    // ---- whole lists

    private static void wholeList(int n, int rule) {
        for (int k = 0; k < listOf(n).size(); k++) {
            String where = "number " + k + " of " + n + " by rule " + rule;
            GivingHeaps x = new GivingHeaps();
            x.rule(rule);
            x.list(0, n, k);
            due(where, "rank", x.rank(0), k);
            due(where, "kind", x.kind(0), kindOf(n, rule, k));
            due(where, "tail", x.tail(0), tailOf(n, rule, k));
            due(where, "beat", x.beat(0), beatOf(n, rule, k));
            due(where, "leader", x.leader(0), leaderOf(n, rule, k));
            List<Integer> comers = comers(n, rule, k);
            due(where, "from", x.from(0), comers.size());
            for (int i = 0; i < comers.size(); i++) {
                due(where, "fromAt " + i, x.fromAt(0, i), comers.get(i));
            }
            due(where, "reach", x.reach(0), mixed(listOf(n).get(k)).size());
            x.step(0, 1);
            due(where, "step", x.rank(0), nextOf(n, rule).get(k));
            x.list(0, n, k);
            x.turn(0);
            due(where, "turn", x.rank(0), number(turned(listOf(n).get(k))));
        }
    }

    private static void allRounds(int n, int rule) {
        String where = "list of " + n + " by rule " + rule;
        GivingHeaps x = new GivingHeaps();
        x.rule(rule);
        for (int what = 0; what <= 4; what++) {
            due(where, "rounds " + what, x.rounds(n, what), roundsOf(n, rule)[what]);
        }
        List<Integer> leaders = new ArrayList<>(leaders(n, rule));
        for (int i = 0; i <= leaders.size(); i++) {
            due(where, "ring " + i, x.ring(n, i), Model.pick(leaders, i));
        }
    }

    // An object serves for 512 calls, and a pair takes ten of them.
    private static final int PAIRS_OF_AN_OBJECT = 50;

    private static void allEnds(int n, int k) {
        List<List<Integer>> ways = new ArrayList<>();
        for (int rule = 0; rule < 4; rule++) {
            ways.add(way(n, rule, k));
        }
        Map<List<Integer>, Long> reached = mixed(listOf(n).get(k));
        GivingHeaps x = new GivingHeaps();
        for (int j = 0; j < listOf(n).size(); j++) {
            if (j % PAIRS_OF_AN_OBJECT == 0) {
                x = new GivingHeaps();
                x.list(0, n, k);
            }
            x.list(1, n, j);
            String where = "of " + n + " from " + k + " to " + j;
            due(where, "ways", x.ways(0, 1), reached.getOrDefault(listOf(n).get(j), 0L));
            for (int rule = 0; rule < 4; rule++) {
                x.rule(rule);
                due(where, "steps by rule " + rule, x.steps(0, 1), Model.stepsTo(ways.get(rule), j));
            }
        }
    }

    private static void walksOfPairs(int n, int startsApart, int endsApart) {
        for (int k = 0; k < listOf(n).size(); k += startsApart) {
            for (int j = k % endsApart; j < listOf(n).size(); j += endsApart) {
                GivingHeaps x = new GivingHeaps();
                x.list(0, n, k);
                x.list(1, n, j);
                for (int many = 0; many <= 3; many++) {
                    x.walks(0, 1, many);
                    due("of " + n + " from " + k + " to " + j, "walks of " + many, x.asked(),
                        walksOf(listOf(n).get(k), listOf(n).get(j), many));
                }
            }
        }
    }

    public static void main(String[] args) {
        for (int n = 0; n <= 18; n++) {
            for (int rule = 0; rule < 4; rule++) {
                wholeList(n, rule);
                allRounds(n, rule);
            }
        }
        for (int n = 0; n <= 18; n++) {
            for (int k = 0; k < listOf(n).size(); k++) {
                allEnds(n, k);
            }
            walksOfPairs(n, n <= 9 ? 1 : 23, n <= 9 ? 1 : 41);
        }
        for (int state = 0; state < STATES.length; state++) {
            for (int rule = 0; rule < 4; rule++) {
                simpleAtEdges(state, rule);
            }
            othersAtEdges(state, 0);
            othersAtEdges(state, 2);
        }
        for (int seed = 0; seed < RUNS; seed++) {
            run(seed);
        }
        System.out.println(wrong == 0 ? "all answers are as due" : wrong + " answers are not as due");
        if (wrong != 0) {
            System.exit(1);
        }
    }
}
