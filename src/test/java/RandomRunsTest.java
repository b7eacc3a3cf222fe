import java.util.ArrayList;
import java.util.List;
import java.util.Objects;
import java.util.Random;
import java.util.stream.Collectors;
import java.util.stream.IntStream;

/** Long runs of calls drawn by a fixed seed, each answered by the class and by PlainFerries. */
public final class RandomRunsTest {
    private static final int RUNS = 400;
    private static final int CALLS = 512;
    private static final String[] THING_WORDS = {"person", "person", "child", "beast", "stone"};
    private static final String[] FERRY_WORDS = {"exact", "loose", "turning"};

    private final Random random;
    private final NumberFerries x = new NumberFerries();
    private final PlainFerries plain = new PlainFerries();
    private final List<String> calls = new ArrayList<>();
    private boolean wrong = false;
    /** How heavy things are in this run: light ones make many loads alike. */
    private final int heaviest;

    private RandomRunsTest(long seed) {
        random = new Random(seed);
        heaviest = new int[] {1, 2, 3, 6, 12, 40, 99}[random.nextInt(7)];
    }

    public static void main(String[] args) {
        List<String> wrong = IntStream.range(0, RUNS).parallel().mapToObj(run -> new RandomRunsTest(run).play(run))
            .filter(Objects::nonNull).collect(Collectors.toList());
        for (int i = 0; i < wrong.size() && i < 5; i++) System.out.println(wrong.get(i));
        System.out.println(RUNS + " runs of " + CALLS + " calls: " + wrong.size() + " of them wrong");
        if (!wrong.isEmpty()) System.exit(1);
    }

    /** The run's calls up to its first wrong answer; null: there is none. */
    private String play(int run) {
        while (calls.size() < CALLS && !wrong) {
            if (random.nextInt(150) == 0 || calls.size() == 20) {
                tellWorld();
            } else if (random.nextInt(60) == 0) {
                tell(random.nextInt(2) == 0 ? broken(lines()) : lines());
            } else {
                call(random.nextInt(25));
            }
        }
        return wrong ? "run " + run + ":\n  " + String.join("\n  ", calls) : null;
    }

    private void due(String call, int got, int want) {
        calls.add(call + " answered " + got);
        if (got != want) {
            wrong = true;
            calls.add("due is " + want);
        }
    }

    // ---- texts

    private int up(int bound) {
        return 1 + random.nextInt(bound);
    }

    /** Things, then what else is told of them, then ferries that some of them can take. */
    private void tellWorld() {
        due("erase()", x.erase(), plain.erase());
        StringBuilder text = new StringBuilder("shore;person " + up(heaviest) + " " + random.nextInt(2));
        int things = 1 + random.nextInt(8);
        for (int i = 1; i < things; i++) text.append(';').append(thingLine());
        tell(text.toString());
        text = new StringBuilder();
        int most = random.nextBoolean() ? 2 : 10;
        for (int t = 0; t < things; t++) {
            if (plain.thing(t, 0) < 2 && random.nextBoolean()) text.append("hat " + t + " " + random.nextInt(most) + ";");
        }
        text.append("wish " + random.nextInt(things) + " " + random.nextInt(10));
        tell(text.toString());
        text = new StringBuilder("wish " + random.nextInt(things) + " " + random.nextInt(4));
        for (int t = 0; t < things; t++) {
            if (random.nextInt(4) == 0) text.append(";unsure " + t);
        }
        tell(text.toString());
        text = new StringBuilder(ferryLine(things));
        int more = random.nextInt(3);
        for (int i = 0; i < more; i++) text.append(';').append(ferryLine(things));
        tell(text.toString());
    }

    private String ferryLine(int things) {
        int load = 1 + random.nextInt((1 << things) - 1);
        int pounds = 0;
        for (int t = 0; t < things; t++) {
            if ((load >> t & 1) == 1) pounds += plain.thing(t, random.nextInt(3) == 0 ? 1 : 7);
        }
        int kind = random.nextInt(3);
        if (kind == 1) pounds += random.nextInt(3) - 1;
        if (kind == 2 && random.nextBoolean()) {
            pounds = Integer.parseInt(new StringBuilder("" + pounds).reverse().toString());
        }
        int room = random.nextBoolean() ? 8 : Math.min(8, Integer.bitCount(load) + random.nextInt(2));
        return FERRY_WORDS[kind] + " " + Math.max(1, Math.min(999, pounds)) + " " + random.nextInt(2)
            + " " + room + " " + up(9);
    }

    private String thingLine() {
        return THING_WORDS[random.nextInt(5)] + " " + up(heaviest) + " " + (random.nextInt(4) == 0 ? 1 : 0);
    }

    private String lines() {
        StringBuilder text = new StringBuilder(random.nextInt(3) > 0 ? "shore" : line());
        int more = random.nextInt(12);
        for (int i = 0; i < more; i++) text.append(';').append(line());
        return text.toString();
    }

    private String line() {
        int n = Math.max(1, plain.count(0));
        switch (random.nextInt(8)) {
            case 0: return "hat " + random.nextInt(n + 1) + " " + random.nextInt(10);
            case 1: return "wish " + random.nextInt(n + 1) + " " + random.nextInt(10);
            case 2: return "unsure " + random.nextInt(n + 1);
            case 3: case 4: return FERRY_WORDS[random.nextInt(3)] + " "
                + Math.min(999, random.nextInt(8) == 0 ? up(999) : up(4 * heaviest)) + " "
                + random.nextInt(2) + " " + up(random.nextBoolean() ? 8 : 3) + " " + up(9);
            default: return thingLine();
        }
    }

    private String broken(String text) {
        StringBuilder b = new StringBuilder(text);
        int times = up(3);
        for (int i = 0; i < times; i++) {
            int at = random.nextInt(b.length());
            char sign = " ;0189azhw,A\u0000\u00ff\u0080`{/:".charAt(random.nextInt(19));
            switch (random.nextInt(4)) {
                case 0: b.setCharAt(at, sign); break;
                case 1: b.insert(at, sign); break;
                case 2: b.insert(at, "  "); break;
                default: if (b.length() > 1) b.deleteCharAt(at);
            }
        }
        return b.toString();
    }

    private void tell(String text) {
        for (int at = 0; at < text.length(); ) {
            int n = Math.min(up(8), text.length() - at);
            long bytes = random.nextLong();
            for (int i = 0; i < n; i++) {
                bytes = bytes & ~(255L << 8 * i) | (long) text.charAt(at + i) << 8 * i;
            }
            due("write(" + bytes + ", " + n + ")", x.write(bytes, n), plain.write(bytes, n));
            at += n;
        }
        if (random.nextInt(3) == 0) due("fault()", x.fault(), plain.fault());
        boolean bad = plain.fault() != -1;
        due("shore()", x.shore(), plain.shore());
        if (bad && random.nextInt(5) > 0) due("erase()", x.erase(), plain.erase());
    }

    // ---- calls

    private int odd(int usual) {
        int[] odd = {-1, -2, 8, 9, 255, 256, Integer.MIN_VALUE, Integer.MAX_VALUE, 1 << 30, -256};
        return random.nextInt(30) == 0 ? odd[random.nextInt(odd.length)] : usual;
    }

    private int someThing() {
        return odd(random.nextInt(Math.max(1, plain.count(0))));
    }

    private int someFerry() {
        return odd(random.nextInt(Math.max(1, plain.count(1))));
    }

    private int someSet() {
        int all = (1 << plain.count(0)) - 1;
        return odd(random.nextInt(all + 1) & (random.nextBoolean() ? random.nextInt(256) : 255));
    }

    /** Half of them are right, so that things do come over. */
    private int someLoad(int ferry) {
        if (random.nextBoolean()) return someSet();
        int load = plain.loads(ferry, random.nextBoolean() ? 1 : 2);
        int may = plain.aboard(ferry, 0, random.nextInt(256) & (1 << plain.count(0)) - 1, 2);
        return may > 0 && plain.right(ferry, may) == 1 ? may : load > 0 ? load : someSet();
    }

    private void call(int which) {
        int f = someFerry();
        int load = someLoad(f);
        int t = someThing();
        int set = someSet();
        int bank = odd(random.nextInt(2));
        int k = odd(random.nextInt(2));
        switch (which) {
            case 0: writeAnything(); break;
            case 1: if (random.nextInt(4) == 0) due("erase()", x.erase(), plain.erase()); break;
            case 2: due("fault()", x.fault(), plain.fault()); break;
            case 3: { int w = odd(random.nextInt(8));
                due("thing(" + t + ", " + w + ")", x.thing(t, w), plain.thing(t, w)); break; }
            case 4: { int w = odd(random.nextInt(5));
                due("ferry(" + f + ", " + w + ")", x.ferry(f, w), plain.ferry(f, w)); break; }
            case 5: { int w = odd(random.nextInt(6));
                due("as(" + t + ", " + w + ")", x.as(t, w), plain.as(t, w)); break; }
            case 6: due("right(" + f + ", " + load + ")", x.right(f, load), plain.right(f, load)); break;
            case 7: case 8:
                due("cross(" + f + ", " + load + ")", x.cross(f, load), plain.cross(f, load)); break;
            case 9: due("doff(" + t + ")", x.doff(t), plain.doff(t)); break;
            case 10: due("noon()", x.noon(), plain.noon()); break;
            case 11: due("keep(" + k + ")", x.keep(k), plain.keep(k)); break;
            case 12: due("back(" + k + ")", x.back(k), plain.back(k)); break;
            case 13: { int w = odd(random.nextInt(4));
                due("loads(" + f + ", " + w + ")", x.loads(f, w), plain.loads(f, w)); break; }
            case 14: { int p = odd(up(4 * heaviest));
                due("weighed(" + bank + ", " + p + ")", x.weighed(bank, p), plain.weighed(bank, p)); break; }
            case 15: due("hats(" + f + ", " + load + ", " + k + ")", x.hats(f, load, k), plain.hats(f, load, k)); break;
            case 16: { int w = odd(up(Math.min(99, 2 * heaviest)));
                due("stones(" + f + ", " + load + ", " + w + ")", x.stones(f, load, w), plain.stones(f, load, w)); break; }
            case 17: due("sure(" + f + ")", x.sure(f), plain.sure(f)); break;
            case 18: seen(f); break;
            case 19: { int i = odd(random.nextInt(6) - 1);
                if (random.nextInt(4) == 0) wholeWay();
                due("fewest(" + set + ", " + bank + ", " + i + ")", x.fewest(set, bank, i), plain.fewest(set, bank, i)); break; }
            case 20: due("soonest(" + set + ", " + bank + ")", x.soonest(set, bank), plain.soonest(set, bank)); break;
            case 21: rowMore(f, load); break;
            case 22: due("burn()", x.burn(), plain.burn()); break;
            case 23: due("judge()", x.judge(), plain.judge()); break;
            default: { int w = odd(random.nextInt(8));
                due("count(" + w + ")", x.count(w), plain.count(w)); }
        }
    }

    /** A crossing there and back again is right as often as it is told: rows go on with it. */
    private void rowMore(int f, int load) {
        int times = random.nextInt(14);
        for (int i = 0; i < times; i++) {
            due("row(" + f + ", " + load + ")", x.row(f, load), plain.row(f, load));
        }
        due("judge()", x.judge(), plain.judge());
    }

    /** All crossings of the longest way that can be asked for. */
    private void wholeWay() {
        int set = (1 << plain.count(0)) - 1;
        int bank = random.nextInt(2);
        if (plain.fewest(set, bank, -1) < 1) set = 1 << random.nextInt(8) & set;
        int length = plain.fewest(set, bank, -1);
        for (int i = -1; i <= length; i++) {
            due("fewest(" + set + ", " + bank + ", " + i + ")", x.fewest(set, bank, i), plain.fewest(set, bank, i));
        }
        due("soonest(" + set + ", " + bank + ")", x.soonest(set, bank), plain.soonest(set, bank));
    }

    private void seen(int f) {
        int in = random.nextBoolean() ? 0 : someSet() & someSet();
        int out = random.nextBoolean() ? 0 : someSet() & someSet();
        int w = odd(random.nextInt(3));
        due("aboard(" + f + ", " + in + ", " + out + ", " + w + ")",
            x.aboard(f, in, out, w), plain.aboard(f, in, out, w));
    }

    private void writeAnything() {
        if (random.nextInt(6) > 0) return;
        long bytes = random.nextLong();
        int n = odd(random.nextInt(10));
        due("write(" + bytes + ", " + n + ")", x.write(bytes, n), plain.write(bytes, n));
    }
}
