import java.io.IOException;
import java.nio.file.Files;
import java.nio.file.Path;
import java.util.ArrayList;
import java.util.LinkedHashMap;
import java.util.List;
import java.util.Map;

/** What the tests of edges share. Each test stands by the words of the document that it holds to. */
final class Edges {
    static final int BAD = -1, FULL = -2, FINDING = -3, NONE = -9;
    static final int NOTHING = 1, BEYOND = 2, UNLIKE = 3, NOUGHT = 4, SIZE = 5;
    static final int EACH = 0, GREATEST = 1, TWO = 2, LEAST = 3, RULES = 4;
    static final int PLACES = 12;
    static final int MIN = Integer.MIN_VALUE, MAX = Integer.MAX_VALUE;
    static final int[] EIGHTEEN_ONES = {1, 1, 1, 1, 1, 1, 1, 1, 1, 1, 1, 1, 1, 1, 1, 1, 1, 1};

    private static final Path DOCUMENT = Path.of("../shared/DOC.md");
    private static final Map<String, List<String>> WORDS = new LinkedHashMap<>();
    private static String section = "";
    private static String words = "";
    private static int tests = 0;
    private static int wrong = 0;

    private Edges() {
    }

    interface Call {
        long on(GivingHeaps x);
    }

    interface PlaceCall {
        long on(GivingHeaps x, int p);
    }

    // ---- tests by the document's words

    static void section(String title) {
        section = title;
        WORDS.putIfAbsent(title, new ArrayList<>());
    }

    static void edge(String quoted, Runnable test) {
        words = quoted;
        WORDS.get(section).add(quoted);
        tests++;
        test.run();
    }

    private static void fault(String what) {
        wrong++;
        System.out.println(section + ", \"" + words + "\": " + what);
    }

    static void due(String what, long got, long want) {
        if (got != want) {
            fault(what + " answered " + got + ", due is " + want);
        }
    }

    /** Ends the run; a sentence of the document that no test stands by is a fault, too. */
    static void finish() throws IOException {
        if (Files.exists(DOCUMENT)) {
            compareWithDocument(Files.readString(DOCUMENT));
        } else {
            System.out.println("no " + DOCUMENT + ": the quoted words are not compared with it");
        }
        System.out.println(wrong == 0 ? tests + " edges are as due" : wrong + " answers are not as due");
        if (wrong != 0) {
            System.exit(1);
        }
    }

    private static void compareWithDocument(String text) {
        for (String part : text.split("\n## ")) {
            int end = part.indexOf('\n');
            String title = end < 0 ? part : part.substring(0, end);
            boolean must = title.startsWith("Promise ") || title.equals("Terms");
            section = title;
            List<String> quoted = WORDS.remove(title);
            if (quoted != null) {
                compareWithSection(plain(part.substring(title.length())), quoted, must);
            } else if (must) {
                words = "";
                fault("no test stands by this section");
            }
        }
        for (String title : WORDS.keySet()) {
            section = title;
            fault("the document has no such section");
        }
    }

    // The heads of the groups of calls and the calls' own lines promise nothing.
    private static String plain(String part) {
        return part.replaceAll("(?m)^Ahead of the calls .*$", " ").replaceAll("(?m)^```.*$", " ")
                .replaceAll("(?m)^`[^`]*`: ", " ").replaceAll("\\s+", " ");
    }

    private static void compareWithSection(String text, List<String> quoted, boolean whole) {
        boolean[] seen = new boolean[text.length()];
        for (String quote : quoted) {
            words = quote;
            if (!text.contains(quote)) {
                fault("the document does not say so there");
            }
            for (int at = text.indexOf(quote); at >= 0; at = text.indexOf(quote, at + 1)) {
                java.util.Arrays.fill(seen, at, at + quote.length(), true);
            }
        }
        StringBuilder left = new StringBuilder();
        for (int i = 0; i < text.length(); i++) {
            left.append(seen[i] ? ' ' : text.charAt(i));
        }
        words = left.toString().trim().replaceAll("\\s+", " ");
        if (whole && !words.isEmpty()) {
            fault("no test stands by these words");
        }
    }

    // ---- objects

    /** An object whose parting 0 has these heaps. */
    static GivingHeaps with(int... heaps) {
        GivingHeaps x = new GivingHeaps();
        put(x, 0, heaps);
        return x;
    }

    static GivingHeaps byRule(int rule, int... heaps) {
        GivingHeaps x = with(heaps);
        x.rule(rule);
        return x;
    }

    static void put(GivingHeaps x, int p, int... heaps) {
        x.parting(p);
        for (int c : heaps) {
            x.heap(p, c);
        }
    }

    /** An object whose twelve partings are there, with 4 cards each, and which has told of walks. */
    static GivingHeaps allThere() {
        GivingHeaps x = new GivingHeaps();
        for (int p = 0; p < PLACES; p++) {
            x.list(p, 4, p % 5);
        }
        x.walks(0, 0, 1);
        return x;
    }

    // ---- what several tests ask

    static void dueHeaps(String what, GivingHeaps x, int p, int... heaps) {
        due(what + ": how many heaps", x.at(p, -1), heaps.length);
        for (int i = 0; i < heaps.length; i++) {
            due(what + ": heap " + i, x.at(p, i), heaps[i]);
        }
    }

    /** Refused or none: it answers so, and but for its finding (0: none) nothing is changed. */
    static void refused(String what, GivingHeaps x, long answer, int finding, Call call) {
        long digest = x.digest();
        long asked = x.asked();
        int latest = x.finding();
        int[] times = new int[SIZE + 1];
        for (int f = NOTHING; f <= SIZE; f++) {
            times[f] = x.findings(f);
        }
        due(what, call.on(x), answer);
        due(what + ": digest() behind it", x.digest(), digest);
        due(what + ": asked() behind it", x.asked(), asked);
        due(what + ": finding() behind it", x.finding(), finding == 0 ? latest : finding);
        for (int f = NOTHING; f <= SIZE; f++) {
            due(what + ": findings(" + f + ") behind it", x.findings(f), times[f] + (f == finding ? 1 : 0));
        }
    }

    static void bad(String what, GivingHeaps x, Call call) {
        refused(what, x, BAD, 0, call);
    }

    static void full(String what, GivingHeaps x, Call call) {
        refused(what, x, FULL, 0, call);
    }

    static void none(String what, GivingHeaps x, Call call) {
        refused(what, x, NONE, 0, call);
    }

    static void found(String what, GivingHeaps x, int finding, Call call) {
        refused(what, x, FINDING, finding, call);
    }

    /** BAD are all places but 0 .. 11. */
    static void badPlaces(PlaceCall call) {
        int[] off = {-1, PLACES, MIN, MAX};
        for (int p : off) {
            bad("place " + p, allThere(), x -> call.on(x, p));
            bad("place " + p + " of a new object", new GivingHeaps(), x -> call.on(x, p));
        }
        for (int p = 0; p < PLACES; p++) {
            due("place " + p + " is BAD", call.on(allThere(), p) == BAD ? 1 : 0, 0);
        }
    }

    /** NOTHING are places at first and when torn, whatever lay there. */
    static void nothing(PlaceCall call) {
        for (int p = 0; p < PLACES; p++) {
            int place = p;
            GivingHeaps x = new GivingHeaps();
            x.parting((p + 1) % PLACES);
            found("missing at first, place " + p, x, NOTHING, y -> call.on(y, place));
            GivingHeaps torn = allThere();
            torn.tear(p);
            found("torn, place " + p, torn, NOTHING, y -> call.on(y, place));
        }
    }
}
