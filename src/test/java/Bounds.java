import java.io.IOException;
import java.nio.file.Files;
import java.nio.file.Path;
import java.util.ArrayList;
import java.util.List;
import java.util.Set;
import java.util.TreeMap;
import java.util.TreeSet;
import java.util.regex.Matcher;
import java.util.regex.Pattern;

/**
 * What the tests of the boundaries share. A test begins with the document's own words, says(..), and
 * what is looked at up to the next ones belongs to them; end(..) sees to it that the words stand in
 * the document, that each has something looked at, and that every refusal a promise names was met.
 */
final class Bounds {
    static final int NONE = -1, UNKNOWN = -2, OUTSIDE = -3, NOT = -4, FULL = -5;
    static final int LOW = Integer.MIN_VALUE, HIGH = Integer.MAX_VALUE;
    /** No THING of at most 5, no FERRY, no k: next to the bounds, and what a shift or a cast would turn into 0. */
    static final int[] NO_THING = {-1, 5, 8, 32, 33, 256, 65536, LOW, LOW + 1, HIGH};
    static final int[] NO_FERRY = {-1, 3, 8, 32, 256, 65536, LOW, HIGH};
    static final int[] NO_BANK = {-1, 2, 3, 32, 256, LOW, LOW + 1, HIGH};
    /** Sets of THINGS of which one at least is not among 5: alone, and with some that are. */
    static final int[] NO_SET = {32, 37, 128, 256, 261, 65541, 1 << 30, LOW, LOW + 5, -1, -32, HIGH};

    private static final String[] REFUSALS = {"NONE", "UNKNOWN", "OUTSIDE", "NOT", "FULL"};
    private static final Pattern PROMISE = Pattern.compile("## Promise (\\d+): .*?(?=## )", Pattern.DOTALL);
    /** Empty, where it cannot be read: then the answers alone are looked at. */
    private static final String DOCUMENT = read();

    private static final TreeMap<Integer, TreeSet<Integer>> met = new TreeMap<>();
    private static final List<String> sentences = new ArrayList<>();
    private static int promise = 0;
    private static int looked = 1;
    private static int checks = 0;
    private static int wrong = 0;

    interface Call {
        int on(NumberFerries x);
    }

    interface World {
        NumberFerries make();
    }

    private Bounds() {
    }

    private static String read() {
        try {
            return Files.readString(Path.of("../shared/DOC.md")).replaceAll("\\s+", " ");
        } catch (IOException e) {
            return "";
        }
    }

    // ---- sentences

    static void says(int itsPromise, String words) {
        must(looked > 0, "something is looked at");
        looked = 0;
        promise = itsPromise;
        sentences.add(words);
        must(DOCUMENT.isEmpty() || DOCUMENT.contains(words), "the document says it");
        looked = 0;
        met.computeIfAbsent(promise, p -> new TreeSet<>());
    }

    static void must(boolean good, String what) {
        looked++;
        checks++;
        if (!good) {
            wrong++;
            String words = sentences.isEmpty() ? "" : sentences.get(sentences.size() - 1);
            System.out.println("promise " + promise + ", \"" + words + "\": " + what + ": not so");
        }
    }

    static void due(String call, int got, int want) {
        must(got == want, call + " answered " + got + ", due is " + want);
        if (want < 0 && promise > 0) met.get(promise).add(want);
    }

    static void end(int first, int last) {
        must(looked > 0, "something is looked at");
        if (!DOCUMENT.isEmpty()) promises(first, last);
        System.out.println(checks + " looked at, " + wrong + " not as due");
        if (wrong != 0) System.exit(1);
    }

    /** Every promise has its sentences here, and every refusal that it names was due once. */
    private static void promises(int first, int last) {
        Matcher m = PROMISE.matcher(DOCUMENT + "## ");
        Set<Integer> seen = new TreeSet<>();
        while (m.find()) {
            promise = Integer.parseInt(m.group(1));
            if (promise < first || promise > last) continue;
            seen.add(promise);
            sentences.add("");
            must(met.containsKey(promise), "it has sentences here");
            for (int r = 0; r < REFUSALS.length; r++) {
                boolean named = Pattern.compile("\\b" + REFUSALS[r] + "\\b").matcher(m.group()).find();
                must(!named || met.containsKey(promise) && met.get(promise).contains(-1 - r), REFUSALS[r] + " is met");
            }
        }
        must(seen.size() == last - first + 1, "all promises from " + first + " to " + last + " are in the document");
    }

    // ---- refused calls, and calls that only tell

    /** Refused, and nothing changes: a twin that was not asked tells all alike. */
    static void refused(World world, String name, Call call, int want) {
        must(want <= UNKNOWN, name + " is refused");
        onlyTells(world, name, call, want);
    }

    static void onlyTells(World world, String name, Call call, int want) {
        NumberFerries asked = world.make();
        due(name, call.on(asked), want);
        String behind = all(asked);
        String without = all(world.make());
        must(behind.equals(without), name + " changes nothing: " + behind + " is " + without);
    }

    /** All that can be told of an object; that which is told by changing it comes last. */
    private static String all(NumberFerries x) {
        StringBuilder s = new StringBuilder();
        now(x, s);
        s.append(" judge ").append(x.judge()).append(" fault ").append(x.fault());
        for (int k = 0; k < 2; k++) {
            s.append(" back ").append(x.back(k));
            now(x, s);
        }
        s.append(" burn ").append(x.burn()).append(" shore ").append(x.shore());
        now(x, s);
        return s.append(" erase ").append(x.erase()).toString();
    }

    private static void now(NumberFerries x, StringBuilder s) {
        s.append(" count");
        for (int what = 0; what < 8; what++) s.append(' ').append(x.count(what));
        for (int t = 0; t < x.count(0); t++) {
            s.append(" thing");
            for (int what = 0; what < 8; what++) s.append(' ').append(x.thing(t, what));
        }
        for (int f = 0; f < x.count(1); f++) {
            s.append(" ferry");
            for (int what = 0; what < 5; what++) s.append(' ').append(x.ferry(f, what));
        }
    }

    // ---- worlds

    static void put(NumberFerries x, String text) {
        for (int at = 0; at < text.length(); at += 8) {
            int n = Math.min(8, text.length() - at);
            long bytes = 0;
            for (int i = 0; i < n; i++) bytes |= (long) text.charAt(at + i) << 8 * i;
            x.write(bytes, n);
        }
    }

    static NumberFerries told(String... texts) {
        NumberFerries x = new NumberFerries();
        for (String text : texts) {
            put(x, text);
            must(x.shore() > 0, text + " is told");
        }
        return x;
    }

    /**
     * A day on which all has begun: something in THE TEXT, in THE ROW, kept at 0 (not at 1), a hat
     * off, things and a ferry over, afternoon. Pounds are 12, 5 (without its hat), 3, 2, 8; 0, 2
     * and 4 are on bank 1, and so are the ferries 0 (exact, 15) and 1 (loose, 8); 2 (turning, 18 now)
     * is on bank 0. The row goes there, there and back.
     */
    static NumberFerries day() {
        NumberFerries x = told(
            "person 10 0;child 5 0;beast 3 0;stone 2 0;person 8 1;hat 0 2;hat 1 1;wish 2 4;unsure 3",
            "exact 15 0 3 2;loose 8 1 2 1;turning 81 0 4 3");
        x.keep(0);
        must(x.cross(0, 5) == 1 && x.doff(1) == 5 && x.noon() == 1, "the day goes on");
        x.row(0, 5);
        x.row(1, 16);
        x.row(1, 16);
        put(x, "shore;stone 7 1");
        must(x.judge() == NONE && x.fault() == NONE, "the row and the text are good");
        return x;
    }
}
