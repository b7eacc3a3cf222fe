import java.util.ArrayList;
import java.util.Arrays;
import java.util.HashMap;
import java.util.List;
import java.util.Map;
import java.util.regex.Matcher;
import java.util.regex.Pattern;

/**
 * The document once more, in its slowest and plainest form, to compare the class with. It shares no
 * way of doing a thing with it where another way is at hand, so that they do not err alike.
 */
final class PlainFerries {
    private static final int NONE = -1, UNKNOWN = -2, OUTSIDE = -3, NOT = -4, FULL = -5;
    private static final List<String> THING_KINDS = List.of("person", "child", "beast", "stone");
    private static final List<String> FERRY_KINDS = List.of("exact", "loose", "turning");
    private static final Pattern TOKEN = Pattern.compile("[a-z]+|[0-9]+|[^ ]", Pattern.DOTALL);

    private static final class Thing {
        String kind;
        int weight, toldBank, bank, hat, wish;
        boolean hatOn = true, unsure;

        Thing copy() {
            Thing t = new Thing();
            t.kind = kind;
            t.weight = weight;
            t.toldBank = toldBank;
            t.bank = bank;
            t.hat = hat;
            t.wish = wish;
            t.hatOn = hatOn;
            t.unsure = unsure;
            return t;
        }

        boolean wears() {
            return kind.equals("person") || kind.equals("child");
        }

        int pounds() {
            return wears() && hatOn ? weight + hat : weight;
        }
    }

    private static final class Ferry {
        String kind;
        int number, toldBank, bank, room, minutes;

        Ferry copy() {
            Ferry f = new Ferry();
            f.kind = kind;
            f.number = number;
            f.toldBank = toldBank;
            f.bank = bank;
            f.room = room;
            f.minutes = minutes;
            return f;
        }
    }

    private List<Thing> things = new ArrayList<>();
    private List<Ferry> ferries = new ArrayList<>();
    private boolean afternoon;
    private int crossings;
    private String text = "";
    private final List<int[]> row = new ArrayList<>();
    private final int[][] kept = new int[2][];

    // What the reading of the text leaves behind.
    private List<Thing> readThings;
    private List<Ferry> readFerries;
    private int readLines;

    int write(long bytes, int n) {
        if (n < 1 || n > 8) return OUTSIDE;
        if (text.length() + n > 200) return FULL;
        for (int i = 0; i < n; i++) {
            text += (char) (bytes >>> 8 * i & 255);
        }
        return text.length();
    }

    int erase() {
        int had = text.length();
        text = "";
        return had;
    }

    int fault() {
        List<String> tokens = new ArrayList<>();
        List<Integer> places = new ArrayList<>();
        Matcher m = TOKEN.matcher(text);
        while (m.find()) {
            tokens.add(m.group());
            places.add(m.start());
        }
        places.add(text.length());
        readThings = new ArrayList<>();
        for (Thing t : things) readThings.add(t.copy());
        readFerries = new ArrayList<>();
        for (Ferry f : ferries) readFerries.add(f.copy());
        readLines = 0;
        int at = 0;
        while (true) {
            int good = line(tokens.subList(at, tokens.size()));
            if (good < 0) return places.get(at - good - 1);
            readLines++;
            at += good;
            if (at == tokens.size()) return NONE;
            if (!tokens.get(at).equals(";") || readLines == 12) return places.get(at);
            at++;
        }
    }

    /** How many tokens a line has at the front of these; -1 - i: the i-th is the fault. */
    private int line(List<String> tokens) {
        if (tokens.isEmpty()) return -1;
        String word = tokens.get(0);
        int[] v = new int[5];
        int[][] bounds;
        if (word.equals("shore")) {
            bounds = new int[][] {};
        } else if (THING_KINDS.contains(word)) {
            if (readThings.size() == 8) return -1;
            bounds = new int[][] {{1, 99}, {0, 1}};
        } else if (word.equals("hat") || word.equals("wish")) {
            bounds = new int[][] {{0, readThings.size() - 1}, {0, 9}};
        } else if (word.equals("unsure")) {
            bounds = new int[][] {{0, readThings.size() - 1}};
        } else if (FERRY_KINDS.contains(word)) {
            if (readFerries.size() == 3) return -1;
            bounds = new int[][] {{1, 999}, {0, 1}, {1, 8}, {1, 9}};
        } else {
            return -1;
        }
        for (int i = 1; i <= bounds.length; i++) {
            if (i >= tokens.size() || !tokens.get(i).matches("[0-9]{1,3}")) return -1 - i;
            v[i] = Integer.parseInt(tokens.get(i));
            if (v[i] < bounds[i - 1][0] || v[i] > bounds[i - 1][1]) return -1 - i;
            if (i == 1 && word.equals("hat") && !readThings.get(v[1]).wears()) return -1 - i;
        }
        perform(word, v);
        return 1 + bounds.length;
    }

    private void perform(String word, int[] v) {
        if (word.equals("shore")) {
            readThings.clear();
            readFerries.clear();
        } else if (THING_KINDS.contains(word)) {
            Thing t = new Thing();
            t.kind = word;
            t.weight = v[1];
            t.toldBank = v[2];
            readThings.add(t);
        } else if (word.equals("hat")) {
            readThings.get(v[1]).hat = v[2];
        } else if (word.equals("wish")) {
            readThings.get(v[1]).wish = v[2];
        } else if (word.equals("unsure")) {
            readThings.get(v[1]).unsure = true;
        } else {
            Ferry f = new Ferry();
            f.kind = word;
            f.number = v[1];
            f.toldBank = v[2];
            f.room = v[3];
            f.minutes = v[4];
            readFerries.add(f);
        }
    }

    int shore() {
        if (fault() != NONE) return NOT;
        things = readThings;
        ferries = readFerries;
        for (Thing t : things) {
            t.bank = t.toldBank;
            t.hatOn = true;
        }
        for (Ferry f : ferries) f.bank = f.toldBank;
        afternoon = false;
        crossings = 0;
        row.clear();
        Arrays.fill(kept, null);
        text = "";
        return readLines;
    }

    private boolean noThing(int t) {
        return t < 0 || t >= things.size();
    }

    private boolean noFerry(int f) {
        return f < 0 || f >= ferries.size();
    }

    private boolean noSet(int set) {
        for (int b = 0; b < 32; b++) {
            if ((set >>> b & 1) == 1 && b >= things.size()) return true;
        }
        return false;
    }

    int thing(int thing, int what) {
        if (noThing(thing)) return UNKNOWN;
        if (what < 0 || what > 7) return OUTSIDE;
        Thing t = things.get(thing);
        return new int[] {THING_KINDS.indexOf(t.kind), t.weight, t.bank, t.hat,
            t.wears() && t.hatOn ? 1 : 0, t.wish, t.unsure ? 1 : 0, t.pounds()}[what];
    }

    int ferry(int ferry, int what) {
        if (noFerry(ferry)) return UNKNOWN;
        if (what < 0 || what > 4) return OUTSIDE;
        Ferry f = ferries.get(ferry);
        return new int[] {FERRY_KINDS.indexOf(f.kind), number(f), f.bank, f.room, f.minutes}[what];
    }

    private int number(Ferry f) {
        if (!f.kind.equals("turning") || !afternoon) return f.number;
        return Integer.parseInt(new StringBuilder(String.valueOf(f.number)).reverse().toString());
    }

    int as(int thing, int kind) {
        if (noThing(thing)) return UNKNOWN;
        if (kind < 0 || kind > 5) return OUTSIDE;
        Map<String, List<Integer>> under = Map.of("person", List.of(0, 1, 2),
            "child", List.of(0, 1, 2, 3), "beast", List.of(0, 1, 4), "stone", List.of(0, 5));
        Thing t = things.get(thing);
        return under.get(t.kind).contains(kind) ? t.pounds() : NOT;
    }

    /** The things of a set. */
    private List<Thing> of(int load) {
        List<Thing> all = new ArrayList<>();
        for (int t = 0; t < things.size(); t++) {
            if ((load >> t & 1) == 1) all.add(things.get(t));
        }
        return all;
    }

    private boolean weighsRight(Ferry f, int pounds) {
        int n = number(f);
        return pounds == n || f.kind.equals("loose") && (pounds == n + 1 || pounds == n - 1);
    }

    private boolean mayGo(Ferry f, int load, int more) {
        boolean person = false;
        for (Thing t : of(load)) {
            if (t.bank != f.bank) return false;
            person |= t.kind.equals("person");
        }
        return person && of(load).size() + more <= f.room;
    }

    private boolean isRight(int ferry, int load) {
        Ferry f = ferries.get(ferry);
        return mayGo(f, load, 0) && weighsRight(f, of(load).stream().mapToInt(Thing::pounds).sum());
    }

    private void carry(int ferry, int load) {
        for (Thing t : of(load)) t.bank = 1 - t.bank;
        ferries.get(ferry).bank = 1 - ferries.get(ferry).bank;
    }

    int right(int ferry, int load) {
        if (noFerry(ferry) || noSet(load)) return UNKNOWN;
        return isRight(ferry, load) ? 1 : 0;
    }

    int cross(int ferry, int load) {
        if (noFerry(ferry) || noSet(load)) return UNKNOWN;
        if (!isRight(ferry, load)) return NOT;
        carry(ferry, load);
        return ++crossings;
    }

    int doff(int thing) {
        if (noThing(thing)) return UNKNOWN;
        Thing t = things.get(thing);
        if (!t.wears()) return NOT;
        t.hatOn = !t.hatOn;
        return t.pounds();
    }

    int noon() {
        afternoon = !afternoon;
        return afternoon ? 1 : 0;
    }

    int keep(int k) {
        if (k != 0 && k != 1) return UNKNOWN;
        int hats = 0;
        for (int t = 0; t < things.size(); t++) hats |= things.get(t).hatOn ? 1 << t : 0;
        kept[k] = new int[] {banks(), hats, afternoon ? 1 : 0, crossings};
        return crossings;
    }

    int back(int k) {
        if (k != 0 && k != 1) return UNKNOWN;
        if (kept[k] == null) return NOT;
        stand(kept[k][0]);
        for (int t = 0; t < things.size(); t++) things.get(t).hatOn = (kept[k][1] >> t & 1) == 1;
        afternoon = kept[k][2] == 1;
        crossings = kept[k][3];
        return crossings;
    }

    private List<Integer> rightLoads(int ferry) {
        List<Integer> all = new ArrayList<>();
        for (int load = 0; load < 256; load++) {
            if (!noSet(load) && isRight(ferry, load)) all.add(load);
        }
        return all;
    }

    int loads(int ferry, int what) {
        if (noFerry(ferry)) return UNKNOWN;
        if (what < 0 || what > 3) return OUTSIDE;
        List<Integer> all = rightLoads(ferry);
        if (what == 0) return all.size();
        if (all.isEmpty()) return NONE;
        if (what == 1) return all.get(0);
        int most = all.stream().mapToInt(this::wishes).max().getAsInt();
        return what == 3 ? most : all.stream().filter(l -> wishes(l) == most).findFirst().get();
    }

    private int wishes(int load) {
        return of(load).stream().mapToInt(t -> t.wish).sum();
    }

    int weighed(int bank, int p) {
        if (bank != 0 && bank != 1) return UNKNOWN;
        if (p < 1 || p > 999) return OUTSIDE;
        int n = 0;
        for (int load = 0; load < 256; load++) {
            if (!noSet(load) && of(load).stream().allMatch(t -> t.bank == bank)
                    && of(load).stream().mapToInt(Thing::pounds).sum() == p) {
                n++;
            }
        }
        return n;
    }

    int hats(int ferry, int load, int what) {
        if (noFerry(ferry) || noSet(load)) return UNKNOWN;
        if (what != 0 && what != 1) return OUTSIDE;
        boolean[] were = new boolean[things.size()];
        for (int t = 0; t < were.length; t++) were[t] = things.get(t).hatOn;
        int answer = NONE;
        for (int size = 0; size <= 8 && answer == NONE; size++) {
            for (int off = 0; off < 256 && answer == NONE; off++) {
                if (Integer.bitCount(off) != size || (off & load) != off) continue;
                if (!of(off).stream().allMatch(Thing::wears)) continue;
                for (int t = 0; t < were.length; t++) things.get(t).hatOn = (off >> t & 1) == 0;
                if (isRight(ferry, load)) answer = what == 0 ? size : off;
            }
        }
        for (int t = 0; t < were.length; t++) things.get(t).hatOn = were[t];
        return answer;
    }

    int stones(int ferry, int load, int w) {
        if (noFerry(ferry) || noSet(load)) return UNKNOWN;
        if (w < 1 || w > 99) return OUTSIDE;
        Ferry f = ferries.get(ferry);
        int pounds = of(load).stream().mapToInt(Thing::pounds).sum();
        for (int k = 0; k <= 8; k++) {
            if (mayGo(f, load, k) && weighsRight(f, pounds + k * w)) return k;
        }
        return NONE;
    }

    int sure(int ferry) {
        if (noFerry(ferry)) return UNKNOWN;
        int n = 0;
        for (int load : rightLoads(ferry)) {
            if (alwaysRight(ferries.get(ferry), of(load), 0, 0)) n++;
        }
        return n;
    }

    /** Tries every weight of every unsure one of those from the i-th on. */
    private boolean alwaysRight(Ferry f, List<Thing> aboard, int i, int pounds) {
        if (i == aboard.size()) return weighsRight(f, pounds);
        Thing t = aboard.get(i);
        if (!t.unsure) return alwaysRight(f, aboard, i + 1, pounds + t.pounds());
        return alwaysRight(f, aboard, i + 1, pounds + t.pounds() - 1)
            && alwaysRight(f, aboard, i + 1, pounds + t.pounds())
            && alwaysRight(f, aboard, i + 1, pounds + t.pounds() + 1);
    }

    int aboard(int ferry, int in, int out, int what) {
        if (noFerry(ferry) || noSet(in) || noSet(out)) return UNKNOWN;
        if (what < 0 || what > 2) return OUTSIDE;
        List<Integer> all = new ArrayList<>(rightLoads(ferry));
        all.removeIf(l -> !of(l).containsAll(of(in)) || of(l).stream().anyMatch(of(out)::contains));
        if (what == 0) return all.size();
        if (all.isEmpty()) return NONE;
        return what == 1 ? all.stream().reduce((a, b) -> a | b).get()
            : all.stream().reduce((a, b) -> a & b).get();
    }

    private int banks() {
        int banks = 0;
        for (int t = 0; t < things.size(); t++) banks |= things.get(t).bank << t;
        for (int f = 0; f < ferries.size(); f++) banks |= ferries.get(f).bank << 8 + f;
        return banks;
    }

    private void stand(int banks) {
        for (int t = 0; t < things.size(); t++) things.get(t).bank = banks >> t & 1;
        for (int f = 0; f < ferries.size(); f++) ferries.get(f).bank = banks >> 8 + f & 1;
    }

    /** From each banks that can be come to, the crossings {256 ferry + load, banks behind, minutes}. */
    private Map<Integer, List<int[]>> ways() {
        int now = banks();
        Map<Integer, List<int[]>> ways = new HashMap<>();
        List<Integer> open = new ArrayList<>(List.of(now));
        while (!open.isEmpty()) {
            int from = open.remove(open.size() - 1);
            if (ways.containsKey(from)) continue;
            List<int[]> out = new ArrayList<>();
            for (int f = 0; f < ferries.size(); f++) {
                stand(from);
                for (int load : rightLoads(f)) {
                    stand(from);
                    carry(f, load);
                    out.add(new int[] {256 * f + load, banks(), ferries.get(f).minutes});
                    open.add(banks());
                }
            }
            ways.put(from, out);
        }
        stand(now);
        return ways;
    }

    /** What it costs from each banks to have the set on the bank, by passes until nothing changes. */
    private Map<Integer, Integer> costs(Map<Integer, List<int[]>> ways, int set, int bank, boolean byMinutes) {
        Map<Integer, Integer> cost = new HashMap<>();
        for (int banks : ways.keySet()) {
            boolean over = true;
            for (int t = 0; t < 8; t++) over &= (set >> t & 1) == 0 || (banks >> t & 1) == bank;
            if (over) cost.put(banks, 0);
        }
        boolean changed = true;
        while (changed) {
            changed = false;
            for (Map.Entry<Integer, List<int[]>> from : ways.entrySet()) {
                for (int[] way : from.getValue()) {
                    Integer behind = cost.get(way[1]);
                    if (behind == null) continue;
                    int all = behind + (byMinutes ? way[2] : 1);
                    Integer had = cost.get(from.getKey());
                    if (had == null || all < had) {
                        cost.put(from.getKey(), all);
                        changed = true;
                    }
                }
            }
        }
        return cost;
    }

    int fewest(int set, int bank, int i) {
        if (noSet(set) || bank != 0 && bank != 1) return UNKNOWN;
        if (i < -1) return OUTSIDE;
        Map<Integer, List<int[]>> ways = ways();
        Map<Integer, Integer> cost = costs(ways, set, bank, false);
        int at = banks();
        if (!cost.containsKey(at)) return NONE;
        if (i == -1) return cost.get(at);
        if (i >= cost.get(at)) return NONE;
        for (int step = 0; ; step++) {
            int left = cost.get(at);
            int[] first = null;
            for (int[] way : ways.get(at)) {
                if (cost.getOrDefault(way[1], 9999) == left - 1 && (first == null || way[0] < first[0])) {
                    first = way;
                }
            }
            if (step == i) return first[0];
            at = first[1];
        }
    }

    int soonest(int set, int bank) {
        if (noSet(set) || bank != 0 && bank != 1) return UNKNOWN;
        return costs(ways(), set, bank, true).getOrDefault(banks(), NONE);
    }

    int row(int ferry, int load) {
        if (noFerry(ferry) || noSet(load)) return UNKNOWN;
        if (row.size() == 12) return FULL;
        row.add(new int[] {ferry, load});
        return row.size();
    }

    int burn() {
        int had = row.size();
        row.clear();
        return had;
    }

    int judge() {
        int now = banks();
        int first = NONE;
        for (int i = 0; i < row.size() && first == NONE; i++) {
            if (isRight(row.get(i)[0], row.get(i)[1])) carry(row.get(i)[0], row.get(i)[1]);
            else first = i;
        }
        stand(now);
        return first;
    }

    int count(int what) {
        switch (what) {
            case 0: return things.size();
            case 1: return ferries.size();
            case 2: return banks() & 255;
            case 3: return banks() >> 8;
            case 4: return crossings;
            case 5: return afternoon ? 1 : 0;
            case 6: return row.size();
            case 7: return text.length();
            default: return OUTSIDE;
        }
    }
}
