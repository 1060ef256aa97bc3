import java.util.Arrays;

/** Cards in heaps that give by a rule, step by step; ../shared/DOC.md says what each call answers. */
public final class GivingHeaps {
    public static final int BAD = -1, FULL = -2, FINDING = -3, STATE = -4, NONE = -9;

    private static final int PLACES = 12;
    private static final int MOST_CARDS = 18;
    private static final int SIDE = MOST_CARDS + 1;
    private static final int LONGEST_LIST = 385;
    private static final int MOST_STEPS = 1000;
    private static final int MOST_MIXED_STEPS = 3;

    private static final int EACH = 0, GREATEST = 1, TWO = 2, LEAST = 3, RULES = 4;
    private static final int PLAIN = 0, ROUND = 1, STILL = 2, LONELY = 3;
    private static final int NOTHING = 1, BEYOND = 2, UNLIKE = 3, NOUGHT = 4, SIZE = 5;

    private final Row[] rows = new Row[PLACES];
    private final boolean[] there = new boolean[PLACES];
    private final int[] timesFound = new int[SIZE + 1];
    private final Lists lists = new Lists();
    private final Mixer mixer = new Mixer();
    private final Chart[] charts = new Chart[RULES * SIDE];
    private final Row spare = new Row();
    private final Row otherSpare = new Row();
    private int theRule;
    private int latestFinding;
    private long latestWalks;

    public GivingHeaps() {
        for (int p = 0; p < PLACES; p++) {
            rows[p] = new Row();
        }
    }

    // ---- 1 partings

    public int parting(int p) {
        if (!isPlace(p)) {
            return BAD;
        }
        int before = there[p] ? 1 : 0;
        there[p] = true;
        rows[p].clear();
        return before;
    }

    public int heap(int p, int c) {
        if (!isPlace(p) || c < 1 || c > MOST_CARDS) {
            return BAD;
        }
        Row row = rowAt(p);
        if (row == null) {
            return found(NOTHING);
        }
        if (!row.hasRoomFor(c)) {
            return FULL;
        }
        row.put(c);
        return row.size;
    }

    public int at(int p, int i) {
        if (!isPlace(p)) {
            return BAD;
        }
        Row row = rowAt(p);
        if (row == null) {
            return found(NOTHING);
        }
        if (i == -1) {
            return row.size;
        }
        return row.has(i) ? row.heapAt(i) : found(BEYOND);
    }

    public int take(int p, int i) {
        if (!isPlace(p)) {
            return BAD;
        }
        Row row = rowAt(p);
        if (row == null) {
            return found(NOTHING);
        }
        return row.has(i) ? row.drop(i) : found(BEYOND);
    }

    public int tear(int p) {
        if (!isPlace(p)) {
            return BAD;
        }
        if (!there[p]) {
            return found(NOTHING);
        }
        there[p] = false;
        return 1;
    }

    public int copy(int p, int i, int n, int to) {
        if (!isPlace(p) || !isPlace(to)) {
            return BAD;
        }
        if (n < 0) {
            return found(SIZE);
        }
        Row source = rowAt(p);
        Row target = rowAt(to);
        if (source == null || target == null) {
            return found(NOTHING);
        }
        // i + n could wrap around, size - i can't
        if (i < 0 || i > source.size || n > source.size - i) {
            return found(BEYOND);
        }
        // by way of a spare row, since the source may be the target
        spare.clear();
        spare.putPart(source, i, n);
        if (!target.hasRoomFor(spare.cards)) {
            return FULL;
        }
        target.putPart(spare, 0, spare.size);
        return target.size;
    }

    public int rule(int r) {
        if (r < 0 || r >= RULES) {
            return BAD;
        }
        int before = theRule;
        theRule = r;
        return before;
    }

    public int kind(int p) {
        if (!isPlace(p)) {
            return BAD;
        }
        Row row = rowAt(p);
        if (row == null) {
            return found(NOTHING);
        }
        return chartOf(row.cards).kindOf(lists.numberOf(row));
    }

    public int mark(int p, int kind) {
        if (!isPlace(p) || kind < ROUND || kind > LONELY) {
            return BAD;
        }
        Row row = rowAt(p);
        if (row == null) {
            return found(NOTHING);
        }
        Chart chart = chartOf(row.cards);
        int number = lists.numberOf(row);
        int own = chart.kindOf(number);
        boolean is = own == kind || (own == STILL && kind == ROUND);
        if (!is) {
            return found(UNLIKE);
        }
        if (kind == ROUND) {
            return chart.beatOf(number);
        }
        return kind == STILL ? number : chart.tailOf(number);
    }

    public int mean(int p) {
        if (!isPlace(p)) {
            return BAD;
        }
        Row row = rowAt(p);
        if (row == null) {
            return found(NOTHING);
        }
        return row.size > 0 ? row.cards / row.size : found(NOUGHT);
    }

    // ---- 2 the list

    public int many(int n) {
        return isCards(n) ? lists.length(n) : BAD;
    }

    public int rank(int p) {
        if (!isPlace(p)) {
            return BAD;
        }
        Row row = rowAt(p);
        return row == null ? found(NOTHING) : lists.numberOf(row);
    }

    public int list(int p, int n, int k) {
        if (!isPlace(p) || !isCards(n)) {
            return BAD;
        }
        if (k < 0 || k >= lists.length(n)) {
            return NONE;
        }
        there[p] = true;
        lists.write(rows[p], n, k);
        return 1;
    }

    public int turn(int p) {
        if (!isPlace(p)) {
            return BAD;
        }
        Row row = rowAt(p);
        if (row == null) {
            return found(NOTHING);
        }
        spare.clear();
        for (int c = 1; c <= row.heapAt(0); c++) {
            spare.put(row.heapsFrom(c));
        }
        row.clear();
        row.putPart(spare, 0, spare.size);
        return row.size;
    }

    // ---- 3 steps, rounds

    public int step(int p, int k) {
        if (!isPlace(p) || k < 0 || k > MOST_STEPS) {
            return BAD;
        }
        Row row = rowAt(p);
        if (row == null) {
            return found(NOTHING);
        }
        int n = row.cards;
        int number = chartOf(n).after(lists.numberOf(row), k);
        lists.write(row, n, number);
        return row.size;
    }

    public int tail(int p) {
        if (!isPlace(p)) {
            return BAD;
        }
        Row row = rowAt(p);
        return row == null ? found(NOTHING) : chartOf(row.cards).tailOf(lists.numberOf(row));
    }

    public int beat(int p) {
        if (!isPlace(p)) {
            return BAD;
        }
        Row row = rowAt(p);
        return row == null ? found(NOTHING) : chartOf(row.cards).beatOf(lists.numberOf(row));
    }

    public int leader(int p) {
        if (!isPlace(p)) {
            return BAD;
        }
        Row row = rowAt(p);
        return row == null ? found(NOTHING) : chartOf(row.cards).leaderOf(lists.numberOf(row));
    }

    public int rounds(int n, int what) {
        if (!isCards(n)) {
            return BAD;
        }
        switch (what) {
            case 0:
                return chartOf(n).ringCount;
            case 1:
                return chartOf(n).roundCount;
            case 2:
                return chartOf(n).greatestTail;
            case 3:
                return chartOf(n).lonelyCount;
            case 4:
                return chartOf(n).greatestBeat;
            default:
                return BAD;
        }
    }

    public int ring(int n, int i) {
        return isCards(n) ? chartOf(n).leaderOfRing(i) : BAD;
    }

    public int from(int p) {
        if (!isPlace(p)) {
            return BAD;
        }
        Row row = rowAt(p);
        return row == null ? found(NOTHING) : chartOf(row.cards).comersTo(lists.numberOf(row));
    }

    public int fromAt(int p, int i) {
        if (!isPlace(p)) {
            return BAD;
        }
        Row row = rowAt(p);
        return row == null ? found(NOTHING) : chartOf(row.cards).comerTo(lists.numberOf(row), i);
    }

    public int steps(int p, int q) {
        if (!isPlace(p) || !isPlace(q)) {
            return BAD;
        }
        Row start = rowAt(p);
        Row end = rowAt(q);
        if (start == null || end == null) {
            return found(NOTHING);
        }
        if (start.cards != end.cards) {
            return NONE;
        }
        return chartOf(start.cards).stepsBetween(lists.numberOf(start), lists.numberOf(end));
    }

    // ---- 4 mixed

    public int ways(int p, int q) {
        if (!isPlace(p) || !isPlace(q)) {
            return BAD;
        }
        Row start = rowAt(p);
        Row end = rowAt(q);
        if (start == null || end == null) {
            return found(NOTHING);
        }
        return mixer.choicesBetween(start, end);
    }

    public int reach(int p) {
        if (!isPlace(p)) {
            return BAD;
        }
        Row row = rowAt(p);
        return row == null ? found(NOTHING) : mixer.countReached(lists, row);
    }

    public int walks(int p, int q, int k) {
        if (!isPlace(p) || !isPlace(q) || k < 0 || k > MOST_MIXED_STEPS) {
            return BAD;
        }
        Row start = rowAt(p);
        Row end = rowAt(q);
        if (start == null || end == null) {
            return found(NOTHING);
        }
        latestWalks = start.cards == end.cards ? mixer.choicesOfSteps(lists, start, end, k) : 0;
        return 1;
    }

    // ---- 5 what is told

    public long asked() {
        return latestWalks;
    }

    public int told(int p, int what) {
        if (!isPlace(p) || what < 0 || what > 3) {
            return BAD;
        }
        Row row = rowAt(p);
        if (row == null) {
            return found(NOTHING);
        }
        switch (what) {
            case 0:
                return row.cards;
            case 1:
                return row.size;
            case 2:
                return row.heapAt(0);
            default:
                return row.unlikeHeaps();
        }
    }

    public int count(int what) {
        switch (what) {
            case 0:
                return theRule;
            case 1:
                return rowsThere();
            case 2:
                return cardsInAll();
            default:
                return BAD;
        }
    }

    public int finding() {
        return latestFinding;
    }

    public int findings(int f) {
        return f >= NOTHING && f <= SIZE ? timesFound[f] : BAD;
    }

    public long digest() {
        long h = 31L * 17L + theRule;
        for (int p = 0; p < PLACES; p++) {
            Row row = rowAt(p);
            h = row == null ? 31L * h - 1L : row.digestOnto(h);
        }
        return h;
    }

    // ---- what the calls share

    private static boolean isPlace(int p) {
        return p >= 0 && p < PLACES;
    }

    private static boolean isCards(int n) {
        return n >= 0 && n <= MOST_CARDS;
    }

    private Row rowAt(int p) {
        return isPlace(p) && there[p] ? rows[p] : null;
    }

    private int found(int f) {
        latestFinding = f;
        timesFound[f]++;
        return FINDING;
    }

    private int rowsThere() {
        int sum = 0;
        for (int p = 0; p < PLACES; p++) {
            sum += there[p] ? 1 : 0;
        }
        return sum;
    }

    private int cardsInAll() {
        int sum = 0;
        for (int p = 0; p < PLACES; p++) {
            sum += there[p] ? rows[p].cards : 0;
        }
        return sum;
    }

    // A chart never changes once drawn, so it is kept for as long as the object lives.
    private Chart chartOf(int n) {
        int slot = theRule * SIDE + n;
        Chart chart = charts[slot];
        if (chart == null) {
            chart = new Chart(lists.length(n));
            for (int k = 0; k < chart.length; k++) {
                lists.write(spare, n, k);
                stepInto(otherSpare, spare, theRule);
                chart.link(k, lists.numberOf(otherSpare));
            }
            chart.draw();
            charts[slot] = chart;
        }
        return chart;
    }

    private static void stepInto(Row result, Row source, int rule) {
        result.clear();
        switch (rule) {
            case GREATEST:
                giveFromGreatest(result, source);
                break;
            case TWO:
                giveFromEach(result, source, 2);
                break;
            case LEAST:
                giveLeastAway(result, source);
                break;
            default:
                giveFromEach(result, source, 1);
                break;
        }
    }

    private static void giveFromEach(Row result, Row source, int most) {
        int given = 0;
        for (int i = 0; i < source.size; i++) {
            int gift = Math.min(most, source.heapAt(i));
            result.put(source.heapAt(i) - gift);
            given += gift;
        }
        result.put(given);
    }

    private static void giveFromGreatest(Row result, Row source) {
        if (source.size > 0) {
            result.put(source.heapAt(0) - 1);
            result.putPart(source, 1, source.size - 1);
            result.put(1);
        }
    }

    private static void giveLeastAway(Row result, Row source) {
        int last = source.size - 1;
        int left = source.heapAt(last);
        for (int i = 0; i < last; i++) {
            int gift = left > 0 ? 1 : 0;
            result.put(source.heapAt(i) + gift);
            left -= gift;
        }
        result.put(left);
    }

    /** The heaps of one parting, the greatest first. */
    private static final class Row {
        private final int[] heaps = new int[MOST_CARDS];
        int size;
        int cards;

        void clear() {
            size = 0;
            cards = 0;
        }

        boolean has(int i) {
            return i >= 0 && i < size;
        }

        int heapAt(int i) {
            return i >= 0 && i < size ? heaps[i] : 0;
        }

        boolean hasRoomFor(int more) {
            return more <= MOST_CARDS - cards;
        }

        // A heap without cards is none, so that givers need not look whether they gave their last card.
        void put(int c) {
            if (c < 1 || !hasRoomFor(c) || size >= MOST_CARDS) {
                return;
            }
            int i = size;
            while (i > 0 && heaps[i - 1] < c) {
                heaps[i] = heaps[i - 1];
                i--;
            }
            heaps[i] = c;
            size++;
            cards += c;
        }

        void putPart(Row source, int first, int many) {
            for (int i = 0; i < many; i++) {
                put(source.heapAt(first + i));
            }
        }

        int drop(int i) {
            if (!has(i)) {
                return 0;
            }
            int c = heaps[i];
            for (int j = i + 1; j < size; j++) {
                heaps[j - 1] = heaps[j];
            }
            size--;
            cards -= c;
            return c;
        }

        int heapsFrom(int c) {
            int sum = 0;
            for (int i = 0; i < size && heaps[i] >= c; i++) {
                sum++;
            }
            return sum;
        }

        int unlikeHeaps() {
            int sum = 0;
            for (int i = 0; i < size; i++) {
                sum += i == 0 || heaps[i] != heaps[i - 1] ? 1 : 0;
            }
            return sum;
        }

        void tallyInto(int[] tally) {
            Arrays.fill(tally, 0);
            for (int i = 0; i < size; i++) {
                int c = heaps[i];
                if (c < tally.length) {
                    tally[c]++;
                }
            }
        }

        long digestOnto(long start) {
            long h = 31L * start + size;
            for (int i = 0; i < size; i++) {
                h = 31L * h + heaps[i];
            }
            return h;
        }
    }

    /** THE LIST of each number of cards, counted and not kept. */
    private static final class Lists {
        // at n * SIDE + m: how many partings of n cards have no heap of more than m
        private final int[] capped = new int[SIDE * SIDE];

        Lists() {
            for (int m = 0; m < SIDE; m++) {
                capped[m] = 1;
            }
            for (int n = 1; n < SIDE; n++) {
                for (int m = 1; m < SIDE; m++) {
                    int withHeapOfM = m <= n ? capped[(n - m) * SIDE + m] : 0;
                    capped[n * SIDE + m] = capped[n * SIDE + m - 1] + withHeapOfM;
                }
            }
        }

        private int cappedAt(int n, int m) {
            return n >= 0 && n < SIDE && m >= 0 && m < SIDE ? capped[n * SIDE + m] : 0;
        }

        int length(int n) {
            return cappedAt(n, n);
        }

        int numberOf(Row row) {
            int number = 0;
            int left = row.cards;
            int cap = left;
            for (int i = 0; i < row.size; i++) {
                int c = row.heapAt(i);
                number += cappedAt(left, cap) - cappedAt(left, c);
                left -= c;
                cap = c;
            }
            return number;
        }

        void write(Row row, int n, int k) {
            row.clear();
            int left = n;
            int ahead = k;
            for (int c = n; c > 0; c--) {
                for (int i = 0; i < n && c <= left; i++) {
                    int withHeapOfC = cappedAt(left - c, c);
                    if (ahead >= withHeapOfC) {
                        ahead -= withHeapOfC;
                        break;
                    }
                    row.put(c);
                    left -= c;
                }
            }
        }
    }

    /** Where each parting of one list comes to by one rule; partings go by their numbers. */
    private static final class Chart {
        final int length;
        private final int[] next;
        private final int[] comers;
        private final int[] tails;
        private final int[] beats;
        private final int[] leaders;
        int ringCount;
        int roundCount;
        int greatestTail;
        int lonelyCount;
        int greatestBeat;

        Chart(int partings) {
            length = Math.max(partings, 0);
            next = new int[length];
            comers = new int[length];
            tails = new int[length];
            beats = new int[length];
            leaders = new int[length];
        }

        private boolean has(int k) {
            return k >= 0 && k < length;
        }

        void link(int k, int to) {
            if (has(k) && has(to)) {
                next[k] = to;
                comers[to]++;
            }
        }

        void draw() {
            int[] waiting = comers.clone();
            int[] order = new int[length];
            int peeled = peel(waiting, order);
            for (int k = 0; k < length; k++) {
                lonelyCount += comers[k] == 0 ? 1 : 0;
                if (waiting[k] > 0) {
                    drawRing(k, waiting);
                }
            }
            // backwards, so that what a parting steps to is drawn ahead of it
            for (int i = peeled - 1; i >= 0; i--) {
                drawTail(order[i]);
            }
        }

        // What comes from none, or only from what was peeled, is in no ring; all that stays waiting is.
        private int peel(int[] waiting, int[] order) {
            int peeled = 0;
            for (int k = 0; k < length; k++) {
                if (waiting[k] == 0) {
                    order[peeled] = k;
                    peeled++;
                }
            }
            for (int i = 0; i < peeled && i < length; i++) {
                int to = next[order[i]];
                waiting[to]--;
                if (waiting[to] == 0 && peeled < length) {
                    order[peeled] = to;
                    peeled++;
                }
            }
            return peeled;
        }

        private void drawRing(int leader, int[] waiting) {
            int members = 0;
            int k = leader;
            while (members < length && waiting[k] > 0) {
                waiting[k] = 0;
                leaders[k] = leader;
                members++;
                k = next[k];
            }
            for (int i = 0; i < members; i++) {
                beats[k] = members;
                k = next[k];
            }
            ringCount++;
            roundCount += members;
            greatestBeat = Math.max(greatestBeat, members);
        }

        private void drawTail(int k) {
            int to = next[k];
            tails[k] = tails[to] + 1;
            beats[k] = beats[to];
            leaders[k] = leaders[to];
            greatestTail = Math.max(greatestTail, tails[k]);
        }

        int kindOf(int k) {
            if (!has(k)) {
                return PLAIN;
            }
            if (comers[k] == 0) {
                return LONELY;
            }
            if (next[k] == k) {
                return STILL;
            }
            return tails[k] == 0 ? ROUND : PLAIN;
        }

        int tailOf(int k) {
            return has(k) ? tails[k] : 0;
        }

        int beatOf(int k) {
            return has(k) ? beats[k] : 0;
        }

        int leaderOf(int k) {
            return has(k) ? leaders[k] : 0;
        }

        int comersTo(int k) {
            return has(k) ? comers[k] : 0;
        }

        int comerTo(int k, int i) {
            int seen = 0;
            for (int j = 0; j < length; j++) {
                if (next[j] == k) {
                    if (seen == i) {
                        return j;
                    }
                    seen++;
                }
            }
            return NONE;
        }

        int leaderOfRing(int i) {
            int seen = 0;
            for (int k = 0; k < length; k++) {
                if (leaders[k] == k) {
                    if (seen == i) {
                        return k;
                    }
                    seen++;
                }
            }
            return NONE;
        }

        int after(int k, int many) {
            int here = k;
            for (int i = 0; i < many && has(here); i++) {
                here = next[here];
            }
            return here;
        }

        int stepsBetween(int k, int goal) {
            int here = k;
            // a way of as many steps as the list is long has shown all that it ever comes to
            for (int taken = 0; taken < length && has(here); taken++) {
                if (here == goal) {
                    return taken;
                }
                here = next[here];
            }
            return NONE;
        }
    }

    /** Steps in which each heap gives a card or not. */
    private static final class Mixer {
        // at m * SIDE + g: in how many ways g of m heaps are chosen
        private final int[] chosen = new int[SIDE * SIDE];
        // how many heaps of each size there are, give, and are wanted; one place more, for the size above the greatest
        private final int[] have = new int[SIDE + 1];
        private final int[] give = new int[SIDE + 1];
        private final int[] want = new int[SIDE + 1];
        private final Row giver = new Row();
        private final Row result = new Row();
        private long[] now = new long[LONGEST_LIST];
        private long[] later = new long[LONGEST_LIST];

        Mixer() {
            for (int m = 0; m < SIDE; m++) {
                chosen[m * SIDE] = 1;
                for (int g = 1; g <= m; g++) {
                    chosen[m * SIDE + g] = chosen[(m - 1) * SIDE + g - 1] + chosen[(m - 1) * SIDE + g];
                }
            }
        }

        private int chosenAt(int m, int g) {
            return m >= 0 && m < SIDE && g >= 0 && g < SIDE ? chosen[m * SIDE + g] : 0;
        }

        int choicesBetween(Row start, Row end) {
            if (start.cards != end.cards) {
                return 0;
            }
            start.tallyInto(have);
            end.tallyInto(want);
            int sum = 0;
            for (int given = 0; given <= start.size && given < SIDE; given++) {
                if (given == 0 || want[given] > 0) {
                    sum += choicesGiving(given, start.cards);
                }
            }
            return sum;
        }

        // From the greatest size down, what is wanted leaves only one number of heaps that can give.
        private int choicesGiving(int given, int greatest) {
            int product = 1;
            int sum = 0;
            int fromAbove = 0;
            for (int c = Math.min(greatest, MOST_CARDS); c > 0; c--) {
                int givers = have[c] + fromAbove + (c == given ? 1 : 0) - want[c];
                if (givers < 0 || givers > have[c]) {
                    return 0;
                }
                product *= chosenAt(have[c], givers);
                sum += givers;
                fromAbove = givers;
            }
            return sum == given ? product : 0;
        }

        int countReached(Lists lists, Row start) {
            Arrays.fill(later, 0L);
            spread(lists, start, 1L);
            int sum = 0;
            for (int k = 0; k < LONGEST_LIST; k++) {
                sum += later[k] > 0L ? 1 : 0;
            }
            return sum;
        }

        /** Of k steps from a parting to one of as many cards. */
        long choicesOfSteps(Lists lists, Row start, Row end, int k) {
            Arrays.fill(now, 0L);
            int first = lists.numberOf(start);
            if (first < 0 || first >= LONGEST_LIST) {
                return 0L;
            }
            if (k < 1) {
                return first == lists.numberOf(end) ? 1L : 0L;
            }
            now[first] = 1L;
            for (int i = 1; i < k; i++) {
                spreadAll(lists, start.cards);
            }
            // the last step needs no spreading, since its end is known
            long sum = 0L;
            for (int j = 0; j < LONGEST_LIST; j++) {
                if (now[j] > 0L) {
                    lists.write(giver, start.cards, j);
                    sum += now[j] * choicesBetween(giver, end);
                }
            }
            return sum;
        }

        private void spreadAll(Lists lists, int cards) {
            Arrays.fill(later, 0L);
            for (int j = 0; j < LONGEST_LIST; j++) {
                if (now[j] > 0L) {
                    lists.write(giver, cards, j);
                    spread(lists, giver, now[j]);
                }
            }
            long[] old = now;
            now = later;
            later = old;
        }

        // Heaps of one size are alike: only how many of them give is gone through, weighed by how often that is chosen.
        private void spread(Lists lists, Row start, long weight) {
            start.tallyInto(have);
            Arrays.fill(give, 0);
            int unlikeGifts = 1;
            for (int c = 1; c < SIDE; c++) {
                unlikeGifts *= have[c] + 1;
            }
            for (int i = 0; i < unlikeGifts; i++) {
                land(lists, start.cards, weight);
                nextGift();
            }
        }

        private void land(Lists lists, int greatest, long weight) {
            result.clear();
            long product = weight;
            int given = 0;
            for (int c = Math.min(greatest, MOST_CARDS); c > 0; c--) {
                product *= chosenAt(have[c], give[c]);
                given += give[c];
                int heapsOfC = have[c] - give[c] + give[c + 1];
                for (int i = 0; i < heapsOfC; i++) {
                    result.put(c);
                }
            }
            result.put(given);
            int number = lists.numberOf(result);
            if (number >= 0 && number < LONGEST_LIST) {
                later[number] += product;
            }
        }

        private void nextGift() {
            for (int c = 1; c < SIDE; c++) {
                if (give[c] < have[c]) {
                    give[c]++;
                    return;
                }
                give[c] = 0;
            }
        }
    }
}
