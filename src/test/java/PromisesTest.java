/** Promise by promise: ordinary calls, the edges that the document names, wrong calls. */
public final class PromisesTest {
    private static final int NONE = -1, UNKNOWN = -2, OUTSIDE = -3, NOT = -4, FULL = -5;
    private static final int LOW = Integer.MIN_VALUE, HIGH = Integer.MAX_VALUE;
    private static final String EIGHT = "person 1 0;child 2 0;beast 3 0;stone 4 0;"
        + "person 5 1;child 6 1;beast 7 1;stone 8 1";

    private static int promise = 0;
    private static int checks = 0;
    private static int wrong = 0;

    private static void due(String call, int got, int want) {
        checks++;
        if (got != want) {
            wrong++;
            System.out.println("promise " + promise + ": " + call + " answered " + got + ", due is " + want);
        }
    }

    public static void main(String[] args) {
        promise1();
        promise2();
        promise3();
        promise4();
        promise5();
        promise5Day();
        promise6();
        promise7();
        promise8();
        promise9();
        promise10();
        promise11();
        promise12();
        promise13And14();
        promise15();
        promise16();
        promise17();
        promise18();
        promise19();
        promise20();
        promise21();
        promise22();
        promise23To25();
        promise26();
        refusedInOrder();
        System.out.println(checks + " answers looked at, " + wrong + " not as due");
        if (wrong != 0) System.exit(1);
    }

    // ---- helpers

    private static void put(NumberFerries x, String text) {
        for (int at = 0; at < text.length(); at += 8) {
            int n = Math.min(8, text.length() - at);
            long bytes = 0;
            for (int i = 0; i < n; i++) bytes |= (long) text.charAt(at + i) << 8 * i;
            x.write(bytes, n);
        }
    }

    private static NumberFerries told(String... texts) {
        NumberFerries x = new NumberFerries();
        for (String text : texts) {
            put(x, text);
            int lines = text.split(";").length;
            due("shore() of " + text, x.shore(), lines);
        }
        return x;
    }

    // ---- what is told

    private static void promise1() {
        promise = 1;
        NumberFerries x = new NumberFerries();
        for (int what = 0; what < 8; what++) due("count(" + what + ")", x.count(what), 0);
        due("fault()", x.fault(), 0);
        due("shore()", x.shore(), NOT);
        due("erase()", x.erase(), 0);
        due("burn()", x.burn(), 0);
        due("judge()", x.judge(), NONE);
        due("thing(0, 0)", x.thing(0, 0), UNKNOWN);
        due("ferry(0, 0)", x.ferry(0, 0), UNKNOWN);
        due("fewest(0, 0, -1)", x.fewest(0, 0, -1), 0);
        due("fewest(0, 1, 0)", x.fewest(0, 1, 0), NONE);
        due("soonest(0, 1)", x.soonest(0, 1), 0);
        due("weighed(1, 1)", x.weighed(1, 1), 0);
        due("back(0)", x.back(0), NOT);
        due("keep(0)", x.keep(0), 0);
        due("noon()", x.noon(), 1);
        due("back(0)", x.back(0), 0);
        due("count(5)", x.count(5), 0);
        due("the constants", NumberFerries.NONE * 10000 + NumberFerries.UNKNOWN * 1000
            + NumberFerries.OUTSIDE * 100 + NumberFerries.NOT * 10 + NumberFerries.FULL, -12345);
    }

    private static void promise2() {
        promise = 2;
        NumberFerries x = new NumberFerries();
        due("write(0, 0)", x.write(0, 0), OUTSIDE);
        due("write(0, 9)", x.write(0, 9), OUTSIDE);
        due("write(0, -1)", x.write(0, -1), OUTSIDE);
        due("write(0, LOW)", x.write(0, LOW), OUTSIDE);
        due("write(0, HIGH)", x.write(0, HIGH), OUTSIDE);
        due("count(7)", x.count(7), 0);
        // "shore", with what is no longer of it above.
        due("write(shore.., 5)", x.write(0xfefdfc65726f6873L, 5), 5);
        due("fault()", x.fault(), NONE);
        due("write(59, 1)", x.write(59L | 1L << 63, 1), 6);
        due("write(' ..child', 8)", x.write(0x646c696863202020L, 8), 14);
        due("write(' 7 1', 4)", x.write(0x31203720L, 4), 18);
        due("shore()", x.shore(), 2);
        due("thing(0, 1)", x.thing(0, 1), 7);
        // A byte of 255 is a token of its own, in the highest place too.
        due("write(255 above shore)", x.write(0xff000065726f6873L, 8), 8);
        due("fault()", x.fault(), 5);
        due("erase()", x.erase(), 8);
        due("write(blanks, then 255)", x.write(0xff20202020202020L, 8), 8);
        due("fault()", x.fault(), 7);
        due("erase()", x.erase(), 8);
        for (int i = 1; i <= 24; i++) due("write(0, 8)", x.write(0, 8), 8 * i);
        due("write(0, 4)", x.write(0, 4), 196);
        due("write(0, 5)", x.write(0, 5), FULL);
        due("count(7)", x.count(7), 196);
        due("write(0, 4)", x.write(0, 4), 200);
        due("write(0, 1)", x.write(0, 1), FULL);
        due("write(0, 0)", x.write(0, 0), OUTSIDE);
        due("write(0, 9)", x.write(0, 9), OUTSIDE);
        due("count(7)", x.count(7), 200);
    }

    private static void promise3() {
        promise = 3;
        NumberFerries x = told("person 9 1");
        put(x, "shore;person 100 1");
        due("erase()", x.erase(), 18);
        due("erase()", x.erase(), 0);
        due("count(7)", x.count(7), 0);
        due("count(0)", x.count(0), 1);
        put(x, "shore");
        due("fault()", x.fault(), NONE);
        due("shore()", x.shore(), 1);
        due("erase()", x.erase(), 0);
    }

    private static void fault(String ahead, String text, int want) {
        NumberFerries x = ahead.isEmpty() ? new NumberFerries() : told(ahead);
        put(x, text);
        int things = x.count(0);
        int ferries = x.count(1);
        due("fault() of " + text + (ahead.isEmpty() ? "" : " behind " + ahead), x.fault(), want);
        due("count(7) behind fault()", x.count(7), text.length());
        due("count(0) behind fault()", x.count(0), things);
        due("count(1) behind fault()", x.count(1), ferries);
        if (want != NONE) {
            due("shore() of " + text, x.shore(), NOT);
            due("count(7) behind shore()", x.count(7), text.length());
            due("count(0) behind shore()", x.count(0), things);
        }
    }

    private static void fault(String text, int want) {
        fault("", text, want);
    }

    private static void promise4() {
        promise = 4;
        fault("", 0);
        fault("   ", 3);
        faultsOfShore();
        faultsOfThings();
        faultsOfHatsAndWishes();
        faultsOfFerries();
        faultsOfTooMany();
        faultsReadAgain();
    }

    /** What was only read is not there for the text that is read next. */
    private static void faultsReadAgain() {
        NumberFerries x = told("stone 1 0;exact 1 0 1 1");
        for (int i = 0; i < 4; i++) {
            put(x, "shore;person 1 0;hat 0 1");
            due("fault()", x.fault(), NONE);
            x.erase();
            put(x, "hat 0 1");
            due("fault()", x.fault(), 4);
            x.erase();
            put(x, "person 1 0;exact 1 0 1 1;exact 1 0 1 1");
            due("fault()", x.fault(), NONE);
            x.erase();
            put(x, "unsure 1");
            due("fault()", x.fault(), 7);
            x.erase();
        }
    }

    private static void faultsOfShore() {
        fault("shore", NONE);
        fault("  shore  ", NONE);
        fault("shore ; shore", NONE);
        fault("shore;", 6);
        fault("shore;  ", 8);
        fault(";shore", 0);
        fault("shore;;shore", 6);
        fault("shore shore", 6);
        fault("shore 1", 6);
        fault("shore1", 5);
        fault("shore,", 5);
        fault("shore,;", 5);
        fault("Shore", 0);
        fault("shorE", 0);
        fault("shor", 0);
        fault("shores", 0);
        fault("7", 0);
        fault("shore;7", 6);
        fault("xhore", 0);
        fault("shorez", 0);
        fault("shorea", 0);
        fault("shore;  cow", 8);
        fault("shore\n", 5);
        fault("shore\u0000", 5);
        fault("shore:shore", 5);
        fault("shore;`", 6);
        fault("shore;{", 6);
    }

    private static void faultsOfThings() {
        String[] words = {"person", "child", "beast", "stone"};
        for (String word : words) {
            int n = word.length();
            fault(word, n);
            fault(word + "  ", n + 2);
            fault(word + " 1", n + 2);
            fault(word + " 1 ", n + 3);
            fault(word + " 1 0", NONE);
            fault(word + " 99 1", NONE);
            fault(word + "   009   01 ", NONE);
            fault(word + " 0 1", n + 1);
            fault(word + " 000 1", n + 1);
            fault(word + " 100 1", n + 1);
            fault(word + " 0001 1", n + 1);
            fault(word + " 1 2", n + 3);
            fault(word + " 1 0000", n + 3);
            fault(word + " 1 1 1", n + 5);
            fault(word + " -1 1", n + 1);
            fault(word + " /1 1", n + 1);
            fault(word + " :1 1", n + 1);
            fault(word + " 1,0", n + 2);
            fault(word + " 1;0", n + 2);
            fault(word + " x 0", n + 1);
            fault(word + " 1 x", n + 3);
            fault(word + " 1 0x", n + 4);
            fault(word + ";", n);
            fault(word + " 99999999999 1", n + 1);
            fault(word + " 4294967297 1", n + 1);
            fault(word + "s 1 1", 0);
        }
    }

    private static void faultsOfHatsAndWishes() {
        fault("hat 0 1", 4);
        fault("person 1 0;hat 0 0", NONE);
        fault("person 1 0;hat 0 9", NONE);
        fault("person 1 0;hat 0 10", 17);
        fault("person 1 0;hat 0 0009", 17);
        fault("person 1 0;hat 0", 16);
        fault("person 1 0;hat", 14);
        fault("person 1 0;hat 1 1", 15);
        fault("person 1 0;hat 0 1 1", 19);
        fault("child 1 0;hat 0 3", NONE);
        fault("beast 1 0;hat 0 3", 14);
        fault("stone 1 0;hat 0 3", 14);
        fault("stone 1 0;person 1 0;hat 1 3", NONE);
        fault("stone 1 0;person 1 0;hat 0 3", 25);
        fault("hat 0 1;person 1 0", 4);
        fault("person 1 0", "hat 0 1", NONE);
        fault("person 1 0", "hat 1 1", 4);
        fault("stone 1 0", "hat 0 1", 4);
        fault("stone 1 0", "person 1 0;hat 1 1", NONE);
        fault("stone 1 0", "shore;person 1 0;hat 0 1", NONE);
        fault("person 1 0", "shore;stone 1 0;hat 0 1", 20);
        fault("person 1 0", "shore;hat 0 1", 10);
        fault("wish 0 1", 5);
        fault("stone 1 0;wish 0 9", NONE);
        fault("stone 1 0;wish 0 0", NONE);
        fault("stone 1 0;wish 0 10", 17);
        fault("stone 1 0;wish 1 1", 15);
        fault("stone 1 0;wish 0", 16);
        fault("stone 1 0", "wish 0 1", NONE);
        fault("unsure 0", 7);
        fault("stone 1 0;unsure 0", NONE);
        fault("stone 1 0;unsure 1", 17);
        fault("stone 1 0;unsure 0 0", 19);
        fault("stone 1 0;unsure", 16);
        fault("stone 1 0;unsure 0000", 17);
        fault("stone 1 0;unsure 999", 17);
        fault("stone 1 0", "shore;unsure 0", 13);
    }

    private static void faultsOfFerries() {
        String[] words = {"exact", "loose", "turning"};
        for (String word : words) {
            int n = word.length();
            fault(word, n);
            fault(word + " 1 0 1 1", NONE);
            fault(word + " 999 1 8 9", NONE);
            fault(word + " 001 01 01 01", NONE);
            fault(word + " 0 0 1 1", n + 1);
            fault(word + " 1000 0 1 1", n + 1);
            fault(word + " 1 2 1 1", n + 3);
            fault(word + " 1 0 0 1", n + 5);
            fault(word + " 1 0 9 1", n + 5);
            fault(word + " 1 0 1 0", n + 7);
            fault(word + " 1 0 1 10", n + 7);
            fault(word + " 1 0 1", n + 6);
            fault(word + " 1 0 1;", n + 6);
            fault(word + " 1 0 1 1 1", n + 9);
            fault(word + " 1 0 1 one", n + 7);
        }
    }

    private static void faultsOfTooMany() {
        fault(EIGHT, NONE);
        fault(EIGHT + ";stone 1 1", EIGHT.length() + 1);
        fault(EIGHT + ";stone x", EIGHT.length() + 1);
        fault(EIGHT + ";exact 9 0 1 1;hat 7 1", EIGHT.length() + 19);
        fault(EIGHT + ";exact 9 0 1 1;hat 5 1", NONE);
        fault(EIGHT, "person 1 1", 0);
        fault(EIGHT, "shore;person 1 1", NONE);
        fault(EIGHT, "unsure 7", NONE);
        fault(EIGHT, "unsure 8", 7);
        String three = "exact 1 0 1 1;loose 1 0 1 1;turning 1 0 1 1";
        fault(three, NONE);
        fault(three + ";exact 1 0 1 1", three.length() + 1);
        fault(three, " loose 1 0 1 1", 1);
        fault(three, "shore;loose 1 0 1 1", NONE);
        fault(three, "shore;" + three, NONE);
        fault(three, "shore;" + three + ";exact 1 0 1 1", three.length() + 7);
        String twelve = "shore;shore;shore;shore;shore;shore;shore;shore;shore;shore;shore;shore";
        fault(twelve, NONE);
        fault(twelve + ";", 71);
        fault(twelve + " ;shore", 72);
        fault(twelve + " 1", 72);
    }

    private static void promise5() {
        promise = 5;
        NumberFerries x = told("person 70 1;hat 0 3;wish 0 4;unsure 0;exact 84 1 3 2");
        due("count(7)", x.count(7), 0);
        due("shore() of nothing", x.shore(), NOT);
        due("count(0)", x.count(0), 1);
        put(x, "person 5 0;beast");
        due("shore() with a fault", x.shore(), NOT);
        due("count(0)", x.count(0), 1);
        due("count(7)", x.count(7), 16);
        put(x, " 9 1");
        due("shore()", x.shore(), 2);
        due("count(0)", x.count(0), 3);
        due("thing(0, 3)", x.thing(0, 3), 3);
        due("thing(2, 1)", x.thing(2, 1), 9);
        put(x, "hat 0 5;hat 0 2;wish 0 9;wish 2 1");
        due("shore()", x.shore(), 4);
        due("thing(0, 3)", x.thing(0, 3), 2);
        due("thing(0, 5)", x.thing(0, 5), 9);
        due("thing(2, 5)", x.thing(2, 5), 1);
        put(x, "shore");
        due("shore()", x.shore(), 1);
        due("count(0)", x.count(0), 0);
        due("count(1)", x.count(1), 0);
        due("count(2)", x.count(2), 0);
        due("count(3)", x.count(3), 0);
        // Who comes in the place of another has nothing of it.
        put(x, "child 8 0;loose 9 0 8 9");
        due("shore()", x.shore(), 2);
        due("thing(0, 3)", x.thing(0, 3), 0);
        due("thing(0, 5)", x.thing(0, 5), 0);
        due("thing(0, 6)", x.thing(0, 6), 0);
        due("thing(0, 7)", x.thing(0, 7), 8);
        put(x, "shore;child 9 0;exact 9 0 1 1");
        due("shore()", x.shore(), 3);
        due("right: it was a person once", x.right(0, 1), 0);
        put(x, "shore;beast 9 0;person 9 0;loose 9 0 1 1");
        due("shore()", x.shore(), 4);
        due("thing: it had a hat once", x.thing(0, 4), 0);
        due("doff: it had a hat once", x.doff(0), NOT);
        due("sure: one of its place was unsure once", x.sure(0), 1);
        put(x, "unsure 1");
        due("shore()", x.shore(), 1);
        due("sure(0)", x.sure(0), 1);
        put(x, "shore;person 9 0;person 10 0;loose 9 0 1 1");
        due("shore()", x.shore(), 4);
        due("sure: no longer unsure", x.sure(0), 2);
        put(x, "shore;person 1 1;shore;stone 2 0;unsure 0;shore;beast 3 1");
        due("shore()", x.shore(), 7);
        due("count(0)", x.count(0), 1);
        due("thing(0, 0)", x.thing(0, 0), 2);
        due("thing(0, 6)", x.thing(0, 6), 0);
        due("count(1)", x.count(1), 0);
    }

    private static void promise5Day() {
        NumberFerries x = told("person 9 0;child 4 1;hat 0 1;exact 10 0 2 1;turning 13 1 2 1");
        due("cross(0, 1)", x.cross(0, 1), 1);
        due("cross(0, 1)", x.cross(0, 1), 2);
        due("cross(0, 1)", x.cross(0, 1), 3);
        due("doff(0)", x.doff(0), 9);
        due("doff(1)", x.doff(1), 4);
        due("noon()", x.noon(), 1);
        due("keep(0)", x.keep(0), 3);
        due("keep(1)", x.keep(1), 3);
        due("row(0, 1)", x.row(0, 1), 1);
        put(x, "wish 0 1;");
        due("shore() with a fault", x.shore(), NOT);
        due("count(2)", x.count(2), 3);
        due("count(3)", x.count(3), 3);
        due("count(4)", x.count(4), 3);
        due("count(5)", x.count(5), 1);
        due("count(6)", x.count(6), 1);
        due("back(1)", x.back(1), 3);
        put(x, "wish 0 1");
        due("shore()", x.shore(), 2);
        due("count(2)", x.count(2), 2);
        due("count(3)", x.count(3), 2);
        due("count(4)", x.count(4), 0);
        due("count(5)", x.count(5), 0);
        due("count(6)", x.count(6), 0);
        due("ferry(1, 1)", x.ferry(1, 1), 13);
        due("thing(0, 4)", x.thing(0, 4), 1);
        due("thing(0, 7)", x.thing(0, 7), 10);
        due("thing(1, 4)", x.thing(1, 4), 1);
        due("back(0)", x.back(0), NOT);
        due("back(1)", x.back(1), NOT);
        due("judge()", x.judge(), NONE);
        due("right(0, 1)", x.right(0, 1), 1);
        due("cross(0, 1)", x.cross(0, 1), 1);
    }

    private static void rowOf(NumberFerries x, int thing, int... want) {
        for (int what = 0; what < want.length; what++) {
            due("thing(" + thing + ", " + what + ")", x.thing(thing, what), want[what]);
        }
    }

    private static void promise6() {
        promise = 6;
        NumberFerries x = told(EIGHT, "hat 0 9;hat 5 7;wish 3 9;wish 4 1;unsure 6;unsure 0");
        rowOf(x, 0, 0, 1, 0, 9, 1, 0, 1, 10);
        rowOf(x, 1, 1, 2, 0, 0, 1, 0, 0, 2);
        rowOf(x, 2, 2, 3, 0, 0, 0, 0, 0, 3);
        rowOf(x, 3, 3, 4, 0, 0, 0, 9, 0, 4);
        rowOf(x, 4, 0, 5, 1, 0, 1, 1, 0, 5);
        rowOf(x, 5, 1, 6, 1, 7, 1, 0, 0, 13);
        rowOf(x, 6, 2, 7, 1, 0, 0, 0, 1, 7);
        rowOf(x, 7, 3, 8, 1, 0, 0, 0, 0, 8);
        due("doff(0)", x.doff(0), 1);
        rowOf(x, 0, 0, 1, 0, 9, 0, 0, 1, 1);
        due("thing(8, 0)", x.thing(8, 0), UNKNOWN);
        due("thing(-1, 0)", x.thing(-1, 0), UNKNOWN);
        due("thing(LOW, 0)", x.thing(LOW, 0), UNKNOWN);
        due("thing(HIGH, 0)", x.thing(HIGH, 0), UNKNOWN);
        due("thing(0, 8)", x.thing(0, 8), OUTSIDE);
        due("thing(0, -1)", x.thing(0, -1), OUTSIDE);
        due("thing(8, 8)", x.thing(8, 8), UNKNOWN);
    }

    private static void ferryOf(NumberFerries x, int ferry, int... want) {
        for (int what = 0; what < want.length; what++) {
            due("ferry(" + ferry + ", " + what + ")", x.ferry(ferry, what), want[what]);
        }
    }

    private static void promise7() {
        promise = 7;
        NumberFerries x = told("exact 120 0 1 9;loose 999 1 8 1;turning 120 0 3 4");
        ferryOf(x, 0, 0, 120, 0, 1, 9);
        ferryOf(x, 1, 1, 999, 1, 8, 1);
        ferryOf(x, 2, 2, 120, 0, 3, 4);
        x.noon();
        ferryOf(x, 0, 0, 120, 0, 1, 9);
        ferryOf(x, 1, 1, 999, 1, 8, 1);
        ferryOf(x, 2, 2, 21, 0, 3, 4);
        due("ferry(3, 0)", x.ferry(3, 0), UNKNOWN);
        due("ferry(-1, 0)", x.ferry(-1, 0), UNKNOWN);
        due("ferry(LOW, 0)", x.ferry(LOW, 0), UNKNOWN);
        due("ferry(HIGH, 9)", x.ferry(HIGH, 9), UNKNOWN);
        due("ferry(0, 5)", x.ferry(0, 5), OUTSIDE);
        due("ferry(0, -1)", x.ferry(0, -1), OUTSIDE);
        int[][] turned = {{30, 3}, {1, 1}, {100, 1}, {999, 999}, {501, 105}, {10, 1}, {123, 321}, {12, 21}, {990, 99}};
        for (int[] pair : turned) {
            NumberFerries y = told("turning " + pair[0] + " 1 1 1");
            due("ferry(0, 1)", y.ferry(0, 1), pair[0]);
            y.noon();
            due("ferry(0, 1) of " + pair[0], y.ferry(0, 1), pair[1]);
            y.noon();
            due("ferry(0, 1)", y.ferry(0, 1), pair[0]);
        }
    }

    private static void promise8() {
        promise = 8;
        NumberFerries x = told("person 70 0;child 30 0;beast 11 0;stone 5 0;hat 0 3;hat 1 2");
        int[][] want = {{73, 73, 73, NOT, NOT, NOT}, {32, 32, 32, 32, NOT, NOT},
            {11, 11, NOT, NOT, 11, NOT}, {5, NOT, NOT, NOT, NOT, 5}};
        for (int t = 0; t < 4; t++) {
            for (int kind = 0; kind < 6; kind++) due("as(" + t + ", " + kind + ")", x.as(t, kind), want[t][kind]);
        }
        x.doff(1);
        due("as(1, 2)", x.as(1, 2), 30);
        due("as(4, 0)", x.as(4, 0), UNKNOWN);
        due("as(-1, 9)", x.as(-1, 9), UNKNOWN);
        due("as(HIGH, 0)", x.as(HIGH, 0), UNKNOWN);
        due("as(0, 6)", x.as(0, 6), OUTSIDE);
        due("as(0, -1)", x.as(0, -1), OUTSIDE);
        due("as(3, HIGH)", x.as(3, HIGH), OUTSIDE);
        due("as(3, LOW)", x.as(3, LOW), OUTSIDE);
    }

    // ---- crossings

    private static void promise9() {
        promise = 9;
        NumberFerries x = told("person 10 0;person 10 1;child 10 0;beast 5 0;stone 5 0;stone 1 0",
            "exact 20 0 3 1;loose 20 0 2 1;turning 51 0 8 1");
        due("right: a child goes along", x.right(0, 5), 1);
        due("right: no more than there is room", x.right(0, 25), 1);
        due("right: too many, though they weigh it", x.right(1, 25), 0);
        due("right: one is on the other bank", x.right(0, 3), 0);
        due("right: no person", x.right(0, 28), 0);
        due("right: one pound more, exact", x.right(0, 37), 0);
        due("right: nobody", x.right(0, 0), 0);
        due("right(3, 1)", x.right(3, 1), UNKNOWN);
        due("right(-1, 1)", x.right(-1, 1), UNKNOWN);
        due("right(HIGH, 0)", x.right(HIGH, 0), UNKNOWN);
        due("right(0, 64)", x.right(0, 64), UNKNOWN);
        due("right(0, 65)", x.right(0, 65), UNKNOWN);
        due("right(0, 256)", x.right(0, 256 + 5), UNKNOWN);
        due("right(0, -1)", x.right(0, -1), UNKNOWN);
        due("right(0, LOW)", x.right(0, LOW + 5), UNKNOWN);
        due("right: in the morning", x.right(2, 9), 0);
        x.noon();
        due("right: in the afternoon", x.right(2, 9), 1);
        due("right: a pound less, turning", x.right(2, 1), 0);
        NumberFerries y = told("person 10 0;person 11 0;person 12 0;person 13 0;person 14 0",
            "loose 12 0 1 1;exact 12 0 1 1;turning 12 0 1 1");
        for (int t = 0; t < 5; t++) {
            due("right: loose, " + (10 + t), y.right(0, 1 << t), t >= 1 && t <= 3 ? 1 : 0);
            due("right: exact, " + (10 + t), y.right(1, 1 << t), t == 2 ? 1 : 0);
            due("right: turning, " + (10 + t), y.right(2, 1 << t), t == 2 ? 1 : 0);
        }
        NumberFerries z = told("child 9 0;beast 9 0;stone 9 0;exact 9 0 8 1");
        due("right: a child alone", z.right(0, 1), 0);
        due("right: a beast alone", z.right(0, 2), 0);
        due("right: a stone alone", z.right(0, 4), 0);
        NumberFerries all = told(EIGHT + ";loose 35 0 8 1");
        due("right: both banks", all.right(0, 255), 0);
        NumberFerries one = told("person 1 1;person 1 1;person 1 1;person 1 1;person 1 1;person 1 1;person 1 1;person 1 1",
            "exact 8 1 8 1;exact 8 1 7 1");
        due("right: all eight", one.right(0, 255), 1);
        due("right: eight with room for seven", one.right(1, 255), 0);
    }

    private static void promise10() {
        promise = 10;
        NumberFerries x = told("person 10 0;child 5 0;stone 5 1;exact 15 0 2 3;loose 10 1 1 1");
        due("cross(0, 3)", x.cross(0, 3), 1);
        due("count(2)", x.count(2), 7);
        due("count(3)", x.count(3), 3);
        due("thing(1, 2)", x.thing(1, 2), 1);
        due("ferry(0, 2)", x.ferry(0, 2), 1);
        due("cross(1, 1)", x.cross(1, 1), 2);
        due("count(2)", x.count(2), 6);
        due("count(3)", x.count(3), 1);
        due("cross(0, 3)", x.cross(0, 3), NOT);
        due("cross(0, 0)", x.cross(0, 0), NOT);
        due("cross(1, 3)", x.cross(1, 3), NOT);
        due("count(2)", x.count(2), 6);
        due("count(3)", x.count(3), 1);
        due("count(4)", x.count(4), 2);
        due("cross(1, 1)", x.cross(1, 1), 3);
        due("cross(0, 5)", x.cross(0, 5), 4);
        due("count(2)", x.count(2), 2);
        due("cross(0, 5)", x.cross(0, 5), 5);
        due("cross(2, 1)", x.cross(2, 1), UNKNOWN);
        due("cross(-1, 1)", x.cross(-1, 1), UNKNOWN);
        due("cross(0, 8)", x.cross(0, 8), UNKNOWN);
        due("cross(0, -1)", x.cross(0, -1), UNKNOWN);
        due("cross(LOW, HIGH)", x.cross(LOW, HIGH), UNKNOWN);
        due("count(4)", x.count(4), 5);
        due("count(2)", x.count(2), 7);
    }

    private static void promise11() {
        promise = 11;
        NumberFerries x = told("person 10 0;child 5 0;beast 5 0;stone 5 0;person 7 0;hat 0 3;hat 1 9");
        due("doff(0)", x.doff(0), 10);
        due("doff(1)", x.doff(1), 5);
        due("weighed(0, 10)", x.weighed(0, 10), 4);
        due("doff(0)", x.doff(0), 13);
        due("doff(1)", x.doff(1), 14);
        due("doff(4)", x.doff(4), 7);
        due("thing(4, 4)", x.thing(4, 4), 0);
        due("doff(4)", x.doff(4), 7);
        due("thing(4, 4)", x.thing(4, 4), 1);
        due("doff(2)", x.doff(2), NOT);
        due("doff(3)", x.doff(3), NOT);
        due("thing(2, 4)", x.thing(2, 4), 0);
        due("doff(5)", x.doff(5), UNKNOWN);
        due("doff(-1)", x.doff(-1), UNKNOWN);
        due("doff(LOW)", x.doff(LOW), UNKNOWN);
        due("doff(HIGH)", x.doff(HIGH), UNKNOWN);
    }

    private static void promise12() {
        promise = 12;
        NumberFerries x = told("person 21 0;turning 12 0 1 1");
        due("right(0, 1)", x.right(0, 1), 0);
        due("noon()", x.noon(), 1);
        due("count(5)", x.count(5), 1);
        due("right(0, 1)", x.right(0, 1), 1);
        due("fewest(1, 1, -1)", x.fewest(1, 1, -1), 1);
        due("noon()", x.noon(), 0);
        due("count(5)", x.count(5), 0);
        due("right(0, 1)", x.right(0, 1), 0);
        due("fewest(1, 1, -1)", x.fewest(1, 1, -1), NONE);
        due("noon()", x.noon(), 1);
    }

    private static void promise13And14() {
        promise = 13;
        NumberFerries x = told("person 10 0;child 5 0;hat 0 2;exact 12 0 2 1;loose 15 1 2 1");
        due("keep(0)", x.keep(0), 0);
        due("cross(0, 1)", x.cross(0, 1), 1);
        due("doff(0)", x.doff(0), 10);
        due("noon()", x.noon(), 1);
        due("keep(1)", x.keep(1), 1);
        due("row(0, 1)", x.row(0, 1), 1);
        due("keep(2)", x.keep(2), UNKNOWN);
        due("keep(-1)", x.keep(-1), UNKNOWN);
        due("keep(LOW)", x.keep(LOW), UNKNOWN);
        due("keep(HIGH)", x.keep(HIGH), UNKNOWN);
        promise = 14;
        due("back(0)", x.back(0), 0);
        due("count(2)", x.count(2), 0);
        due("count(3)", x.count(3), 2);
        due("count(4)", x.count(4), 0);
        due("count(5)", x.count(5), 0);
        due("count(6)", x.count(6), 1);
        due("thing(0, 4)", x.thing(0, 4), 1);
        due("thing(0, 7)", x.thing(0, 7), 12);
        due("weighed(0, 12)", x.weighed(0, 12), 1);
        due("loads(0, 1)", x.loads(0, 1), 1);
        due("back(1)", x.back(1), 1);
        due("count(2)", x.count(2), 1);
        due("count(3)", x.count(3), 3);
        due("count(4)", x.count(4), 1);
        due("count(5)", x.count(5), 1);
        due("thing(0, 7)", x.thing(0, 7), 10);
        due("weighed(1, 10)", x.weighed(1, 10), 1);
        due("doff(0)", x.doff(0), 12);
        due("cross(0, 1)", x.cross(0, 1), 2);
        // What is kept stays kept, and what is done afterwards is not done to it.
        due("back(1)", x.back(1), 1);
        due("thing(0, 4)", x.thing(0, 4), 0);
        due("count(2)", x.count(2), 1);
        due("keep(0)", x.keep(0), 1);
        due("back(0)", x.back(0), 1);
        due("count(2)", x.count(2), 1);
        due("back(2)", x.back(2), UNKNOWN);
        due("back(-1)", x.back(-1), UNKNOWN);
        due("back(LOW)", x.back(LOW), UNKNOWN);
        due("back(HIGH)", x.back(HIGH), UNKNOWN);
        NumberFerries y = told("person 10 0");
        due("back(0)", y.back(0), NOT);
        due("back(1)", y.back(1), NOT);
        due("keep(1)", y.keep(1), 0);
        due("back(0)", y.back(0), NOT);
        due("back(1)", y.back(1), 0);
    }

    // ---- loads

    private static void promise15() {
        promise = 15;
        NumberFerries x = told("person 5 0;person 5 0;child 5 0;beast 5 0;stone 4 0;person 6 1",
            "wish 0 2;wish 1 4;wish 2 3;wish 3 1;exact 10 0 2 1;loose 10 0 2 1;exact 10 1 8 1");
        // 0 and 1, 0 and 2, 1 and 2, 0 and 3, 1 and 3.
        due("loads(0, 0)", x.loads(0, 0), 5);
        due("loads(0, 1)", x.loads(0, 1), 3);
        due("loads(0, 2)", x.loads(0, 2), 6);
        due("loads(0, 3)", x.loads(0, 3), 7);
        due("loads(1, 0)", x.loads(1, 0), 7);
        due("loads(2, 0)", x.loads(2, 0), 0);
        due("loads(2, 1)", x.loads(2, 1), NONE);
        due("loads(2, 2)", x.loads(2, 2), NONE);
        due("loads(2, 3)", x.loads(2, 3), NONE);
        due("loads(3, 0)", x.loads(3, 0), UNKNOWN);
        due("loads(-1, 4)", x.loads(-1, 4), UNKNOWN);
        due("loads(0, 4)", x.loads(0, 4), OUTSIDE);
        due("loads(0, -1)", x.loads(0, -1), OUTSIDE);
        due("loads(2, HIGH)", x.loads(2, HIGH), OUTSIDE);
        NumberFerries y = told("person 5 0;person 5 0;person 5 0;wish 2 1;wish 1 1;exact 5 0 1 1;exact 5 0 1 1");
        due("loads: of several the least", y.loads(0, 2), 2);
        due("loads(0, 3)", y.loads(0, 3), 1);
        NumberFerries first = told("person 5 0;person 5 0;person 5 0;wish 0 9;wish 1 8;exact 5 0 1 1");
        due("loads(0, 2)", first.loads(0, 2), 1);
        due("loads(0, 3)", first.loads(0, 3), 9);
        NumberFerries z = told("person 5 0;person 5 0;exact 5 0 1 1");
        due("loads: no wishes at all", z.loads(0, 2), 1);
        due("loads(0, 3)", z.loads(0, 3), 0);
        z.cross(0, 2);
        due("loads over there", z.loads(0, 1), 2);
        due("loads over there", z.loads(0, 0), 1);
    }

    private static void promise16() {
        promise = 16;
        NumberFerries x = told("person 5 0;child 5 0;beast 10 0;stone 5 1;hat 0 5;person 99 1");
        due("weighed(0, 10)", x.weighed(0, 10), 2);
        due("weighed(0, 5)", x.weighed(0, 5), 1);
        due("weighed(0, 15)", x.weighed(0, 15), 2);
        due("weighed(0, 20)", x.weighed(0, 20), 1);
        due("weighed(0, 25)", x.weighed(0, 25), 1);
        due("weighed(1, 5)", x.weighed(1, 5), 1);
        due("weighed(1, 104)", x.weighed(1, 104), 1);
        due("weighed(1, 10)", x.weighed(1, 10), 0);
        x.doff(0);
        due("weighed(0, 10)", x.weighed(0, 10), 2);
        due("weighed(0, 5)", x.weighed(0, 5), 2);
        due("weighed(0, 1)", x.weighed(0, 1), 0);
        due("weighed(0, 999)", x.weighed(0, 999), 0);
        due("weighed(2, 1)", x.weighed(2, 1), UNKNOWN);
        due("weighed(-1, 0)", x.weighed(-1, 0), UNKNOWN);
        due("weighed(LOW, 1)", x.weighed(LOW, 1), UNKNOWN);
        due("weighed(0, 0)", x.weighed(0, 0), OUTSIDE);
        due("weighed(0, 1000)", x.weighed(0, 1000), OUTSIDE);
        due("weighed(0, -5)", x.weighed(0, -5), OUTSIDE);
        due("weighed(1, HIGH)", x.weighed(1, HIGH), OUTSIDE);
        NumberFerries all = told("stone 1 0;stone 1 0;stone 1 0;stone 1 0;stone 1 0;stone 1 0;stone 1 0;stone 1 0");
        due("weighed(0, 4)", all.weighed(0, 4), 70);
        due("weighed(0, 8)", all.weighed(0, 8), 1);
    }

    private static void promise17() {
        promise = 17;
        NumberFerries x = told("person 10 0;person 10 0;child 10 0;beast 10 0;person 10 1;hat 0 2;hat 1 3;hat 2 5;hat 4 1",
            "exact 35 0 4 1;loose 33 0 3 1;turning 3 0 8 1");
        // All three weigh 40 with their hats.
        due("hats(0, 7, 0)", x.hats(0, 7, 0), 1);
        due("hats(0, 7, 1)", x.hats(0, 7, 1), 4);
        due("hats: loose, two of three", x.hats(1, 7, 0), 2);
        due("hats: loose, the least of 5 and 6", x.hats(1, 7, 1), 5);
        due("hats: none is off", x.hats(0, 6, 0), NONE);
        due("hats: no such weight", x.hats(0, 3, 1), NONE);
        due("hats: one on the other bank", x.hats(0, 19, 0), NONE);
        due("hats: no person", x.hats(0, 12, 0), NONE);
        due("hats: nobody", x.hats(0, 0, 0), NONE);
        due("hats: no room", x.hats(1, 15, 0), NONE);
        due("hats(2, 1, 0)", x.hats(2, 1, 0), NONE);
        x.doff(0);
        x.doff(2);
        due("hats: those that are off count as on", x.hats(0, 7, 0), 1);
        due("hats: those that are off count as on", x.hats(0, 7, 1), 4);
        due("thing(0, 4)", x.thing(0, 4), 0);
        due("thing(1, 4)", x.thing(1, 4), 1);
        due("hats(3, 7, 0)", x.hats(3, 7, 0), UNKNOWN);
        due("hats(0, 32, 0)", x.hats(0, 32, 0), UNKNOWN);
        due("hats(0, -1, 5)", x.hats(0, -1, 5), UNKNOWN);
        due("hats(0, 7, 2)", x.hats(0, 7, 2), OUTSIDE);
        due("hats(0, 7, -1)", x.hats(0, 7, -1), OUTSIDE);
        due("hats(0, 0, HIGH)", x.hats(0, 0, HIGH), OUTSIDE);
        NumberFerries y = told("person 10 0;person 10 0;hat 0 2;hat 1 2;exact 22 0 2 1;exact 24 0 2 1;turning 22 0 2 1");
        due("hats: of several the least", y.hats(0, 3, 1), 1);
        due("hats: all may stay on", y.hats(1, 3, 0), 0);
        due("hats: all may stay on", y.hats(1, 3, 1), 0);
        due("hats: a turning one", y.hats(2, 3, 0), 1);
        // Fewer hats go before the least set: 1 and 2 weigh what 3 does.
        NumberFerries z = told("person 10 0;child 10 0;child 10 0;hat 0 1;hat 1 2;hat 2 3;exact 33 0 3 1");
        due("hats: one for two", z.hats(0, 7, 0), 1);
        due("hats: one for two", z.hats(0, 7, 1), 4);
        NumberFerries v = told("person 30 0;turning 12 0 1 1;hat 0 9;turning 93 0 1 1");
        v.noon();
        due("hats: the number of the afternoon", v.hats(1, 1, 0), 0);
        due("hats: the number of the afternoon", v.hats(0, 1, 0), NONE);
    }

    private static void promise18() {
        promise = 18;
        NumberFerries x = told("person 10 0;child 5 0;person 10 1;exact 30 0 5 1;loose 21 0 8 1;turning 2 0 8 1");
        due("stones(0, 1, 5)", x.stones(0, 1, 5), 4);
        due("stones: room for no more", x.stones(0, 1, 4), NONE);
        due("stones(0, 3, 5)", x.stones(0, 3, 5), 3);
        due("stones: one too many", x.stones(0, 3, 3), NONE);
        due("stones(0, 1, 20)", x.stones(0, 1, 20), 1);
        due("stones(0, 1, 99)", x.stones(0, 1, 99), NONE);
        due("stones: loose, the fewest", x.stones(1, 1, 1), NONE);
        due("stones: loose, a pound less", x.stones(1, 1, 2), 5);
        due("stones: loose, just so", x.stones(1, 1, 11), 1);
        due("stones: loose, a pound more", x.stones(1, 1, 12), 1);
        due("stones: loose, two more", x.stones(1, 1, 13), NONE);
        due("stones: loose, two less", x.stones(1, 1, 9), NONE);
        due("stones: no person", x.stones(0, 2, 25), NONE);
        due("stones: on the other bank", x.stones(0, 4, 20), NONE);
        due("stones: one on the other bank", x.stones(0, 5, 10), NONE);
        due("stones: nobody", x.stones(0, 0, 30), NONE);
        due("stones: too heavy", x.stones(2, 1, 1), NONE);
        due("stones(3, 1, 1)", x.stones(3, 1, 1), UNKNOWN);
        due("stones(0, 8, 0)", x.stones(0, 8, 0), UNKNOWN);
        due("stones(0, LOW, 1)", x.stones(0, LOW, 1), UNKNOWN);
        due("stones(0, 1, 0)", x.stones(0, 1, 0), OUTSIDE);
        due("stones(0, 1, 100)", x.stones(0, 1, 100), OUTSIDE);
        due("stones(0, 1, -1)", x.stones(0, 1, -1), OUTSIDE);
        due("stones(0, 0, HIGH)", x.stones(0, 0, HIGH), OUTSIDE);
        NumberFerries y = told("person 10 0;person 10 0;hat 0 2;exact 12 0 1 1;exact 19 0 8 1;exact 20 0 8 1;hat 1 9");
        due("stones: none is needed", y.stones(0, 1, 7), 0);
        due("stones: with the hat", y.stones(1, 1, 1), 7);
        due("stones: eight are too many", y.stones(2, 1, 1), NONE);
        due("stones: no room from the first", y.stones(0, 3, 1), NONE);
        y.doff(0);
        due("stones: without the hat", y.stones(0, 1, 2), NONE);
        due("stones: without the hat", y.stones(1, 1, 3), 3);
        NumberFerries z = told("person 11 0;loose 10 0 8 1");
        due("stones: a pound more is right by itself", z.stones(0, 1, 1), 0);
    }

    private static void promise19() {
        promise = 19;
        NumberFerries x = told("person 10 0;person 10 0;person 11 0;person 9 0;child 10 0;unsure 1;unsure 2",
            "exact 10 0 1 1;loose 10 0 1 1;loose 20 0 2 1");
        due("loads(0, 0)", x.loads(0, 0), 2);
        due("sure: exact, none unsure aboard", x.sure(0), 1);
        due("loads(1, 0)", x.loads(1, 0), 4);
        due("sure: loose", x.sure(1), 3);
        // 0 1, 0 2 (off by one), 0 3, 0 4, 1 2 (two unsure), 1 3 (off by one), 1 4, 2 3, 2 4, 3 4.
        due("loads(2, 0)", x.loads(2, 0), 10);
        due("sure: loose, two aboard", x.sure(2), 6);
        due("sure(3)", x.sure(3), UNKNOWN);
        due("sure(-1)", x.sure(-1), UNKNOWN);
        due("sure(LOW)", x.sure(LOW), UNKNOWN);
        due("sure(HIGH)", x.sure(HIGH), UNKNOWN);
        NumberFerries y = told("person 1 0;unsure 0;loose 1 0 1 1;loose 2 0 1 1;turning 10 0 1 1");
        due("sure(0)", y.sure(0), 1);
        due("sure(1)", y.sure(1), 0);
        y.noon();
        due("loads(2, 0)", y.loads(2, 0), 1);
        due("sure: turning", y.sure(2), 0);
        NumberFerries z = told("person 5 0;stone 5 0;beast 5 0;unsure 1;unsure 2;loose 15 0 3 1;loose 10 0 2 1;turning 5 0 1 1");
        due("sure: two unsure ones together", z.sure(0), 0);
        due("sure: one unsure one", z.sure(1), 2);
        due("sure: turning", z.sure(2), 1);
    }

    private static void promise20() {
        promise = 20;
        NumberFerries x = told("person 5 0;person 5 0;child 5 0;beast 5 0;stone 5 1;exact 10 0 2 1;exact 10 1 2 1");
        // 3, 5, 6, 9, 10.
        due("aboard(0, 0, 0, 0)", x.aboard(0, 0, 0, 0), 5);
        due("aboard(0, 0, 0, 1)", x.aboard(0, 0, 0, 1), 15);
        due("aboard(0, 0, 0, 2)", x.aboard(0, 0, 0, 2), 0);
        due("aboard(0, 1, 0, 0)", x.aboard(0, 1, 0, 0), 3);
        due("aboard(0, 1, 0, 1)", x.aboard(0, 1, 0, 1), 15);
        due("aboard(0, 1, 0, 2)", x.aboard(0, 1, 0, 2), 1);
        due("aboard(0, 0, 1, 0)", x.aboard(0, 0, 1, 0), 2);
        due("aboard(0, 0, 1, 1)", x.aboard(0, 0, 1, 1), 14);
        due("aboard(0, 0, 1, 2)", x.aboard(0, 0, 1, 2), 2);
        due("aboard(0, 0, 9, 1)", x.aboard(0, 0, 9, 1), 6);
        due("aboard(0, 0, 9, 2)", x.aboard(0, 0, 9, 2), 6);
        due("aboard(0, 3, 0, 0)", x.aboard(0, 3, 0, 0), 1);
        due("aboard: all of a set", x.aboard(0, 7, 0, 0), 0);
        due("aboard: seen and not seen", x.aboard(0, 1, 1, 0), 0);
        due("aboard: seen and not seen", x.aboard(0, 1, 1, 1), NONE);
        due("aboard: seen and not seen", x.aboard(0, 1, 1, 2), NONE);
        due("aboard(0, 16, 0, 0)", x.aboard(0, 16, 0, 0), 0);
        due("aboard(0, 0, 16, 0)", x.aboard(0, 0, 16, 0), 5);
        due("aboard(1, 0, 0, 0)", x.aboard(1, 0, 0, 0), 0);
        due("aboard(1, 0, 0, 1)", x.aboard(1, 0, 0, 1), NONE);
        due("aboard(1, 0, 0, 2)", x.aboard(1, 0, 0, 2), NONE);
        due("aboard(2, 0, 0, 0)", x.aboard(2, 0, 0, 0), UNKNOWN);
        due("aboard(-1, 0, 0, 3)", x.aboard(-1, 0, 0, 3), UNKNOWN);
        due("aboard(0, 32, 0, 0)", x.aboard(0, 32, 0, 0), UNKNOWN);
        due("aboard(0, 0, 32, 3)", x.aboard(0, 0, 32, 3), UNKNOWN);
        due("aboard(0, -1, 0, 0)", x.aboard(0, -1, 0, 0), UNKNOWN);
        due("aboard(0, 0, LOW, 0)", x.aboard(0, 0, LOW, 0), UNKNOWN);
        due("aboard(0, 0, 0, 3)", x.aboard(0, 0, 0, 3), OUTSIDE);
        due("aboard(0, 0, 0, -1)", x.aboard(0, 0, 0, -1), OUTSIDE);
        due("aboard(1, 1, 1, HIGH)", x.aboard(1, 1, 1, HIGH), OUTSIDE);
    }

    // ---- rows of crossings

    private static void wayOf(NumberFerries x, int set, int bank, int... want) {
        String call = "fewest(" + set + ", " + bank + ", ";
        due(call + "-1)", x.fewest(set, bank, -1), want.length);
        for (int i = 0; i < want.length; i++) due(call + i + ")", x.fewest(set, bank, i), want[i]);
        due(call + want.length + ")", x.fewest(set, bank, want.length), NONE);
        due(call + "HIGH)", x.fewest(set, bank, HIGH), NONE);
    }

    private static void promise21() {
        promise = 21;
        // Two persons of 5; a ferry that takes both, one that takes either.
        NumberFerries x = told("person 5 0;person 5 0;stone 5 0;stone 9 0;exact 10 0 2 3;exact 5 0 1 1");
        wayOf(x, 3, 1, 3);
        wayOf(x, 1, 1, 3);
        wayOf(x, 4, 1, 5);
        wayOf(x, 0, 0);
        wayOf(x, 0, 1);
        wayOf(x, 15, 0);
        wayOf(x, 6, 1, 6);
        // 6 and then 256 + 1 would do as well, and so would either the other way round.
        wayOf(x, 7, 1, 5, 256 + 2);
        due("fewest: never", x.fewest(8, 1, -1), NONE);
        due("fewest: never", x.fewest(8, 1, 0), NONE);
        due("fewest: never", x.fewest(15, 1, 3), NONE);
        due("fewest(16, 0, -1)", x.fewest(16, 0, -1), UNKNOWN);
        due("fewest(-1, 0, -2)", x.fewest(-1, 0, -2), UNKNOWN);
        due("fewest(LOW, 0, 0)", x.fewest(LOW, 0, 0), UNKNOWN);
        due("fewest(1, 2, -2)", x.fewest(1, 2, -2), UNKNOWN);
        due("fewest(1, -1, 0)", x.fewest(1, -1, 0), UNKNOWN);
        due("fewest(1, 1, -2)", x.fewest(1, 1, -2), OUTSIDE);
        due("fewest(1, 1, LOW)", x.fewest(1, 1, LOW), OUTSIDE);
        due("fewest(0, 0, -2)", x.fewest(0, 0, -2), OUTSIDE);
        due("nothing changes", x.count(2) + x.count(3) + x.count(4), 0);
        x.cross(1, 2);
        wayOf(x, 3, 1, 5);
        wayOf(x, 2, 0, 256 + 2);
        wayOf(x, 5, 1, 5);
        wayOf(x, 6, 1, 5);
        // The second ferry comes into it only if the first does not do as well.
        NumberFerries y = told("person 5 0;person 5 1;exact 5 1 1 1;exact 5 0 1 1;exact 5 0 1 1");
        wayOf(y, 1, 1, 256 + 1);
        wayOf(y, 2, 0, 2);
        NumberFerries z = told("person 4 0;person 4 0;person 4 0;loose 5 0 1 2;turning 80 0 2 2");
        due("fewest: one goes over, and nobody else can", z.fewest(7, 1, -1), NONE);
        wayOf(z, 4, 1, 4);
        z.noon();
        wayOf(z, 7, 1, 1, 256 + 6);
        // There, back by the other ferry, and there again with it.
        NumberFerries w = told("person 5 0;stone 2 0;stone 2 0;exact 7 0 2 1;loose 6 1 2 4");
        wayOf(w, 7, 1, 3, 256 + 1, 256 + 5);
        due("soonest(7, 1)", w.soonest(7, 1), 9);
    }

    private static void promise22() {
        promise = 22;
        NumberFerries x = told("person 5 0;person 5 0;stone 5 0;stone 9 0;exact 10 0 2 7;exact 5 0 1 1");
        due("soonest(1, 1)", x.soonest(1, 1), 1);
        due("soonest(3, 1)", x.soonest(3, 1), 7);
        due("soonest(7, 1)", x.soonest(7, 1), 8);
        due("soonest(4, 1)", x.soonest(4, 1), 7);
        due("soonest(0, 1)", x.soonest(0, 1), 0);
        due("soonest(15, 0)", x.soonest(15, 0), 0);
        due("soonest(8, 1)", x.soonest(8, 1), NONE);
        due("soonest(15, 1)", x.soonest(15, 1), NONE);
        due("soonest(16, 1)", x.soonest(16, 1), UNKNOWN);
        due("soonest(-1, 1)", x.soonest(-1, 1), UNKNOWN);
        due("soonest(LOW, 1)", x.soonest(LOW, 1), UNKNOWN);
        due("soonest(1, 2)", x.soonest(1, 2), UNKNOWN);
        due("soonest(1, -1)", x.soonest(1, -1), UNKNOWN);
        due("soonest(0, HIGH)", x.soonest(0, HIGH), UNKNOWN);
        due("nothing changes", x.count(2) + x.count(3) + x.count(4), 0);
        x.cross(1, 1);
        due("soonest(1, 1)", x.soonest(1, 1), 0);
        due("soonest(1, 0)", x.soonest(1, 0), 1);
        NumberFerries two = told("person 5 0;person 5 0;exact 10 0 2 9;exact 5 0 1 4;exact 5 0 1 3");
        due("fewest(3, 1, -1)", two.fewest(3, 1, -1), 1);
        due("soonest: two short ones before a long one", two.soonest(3, 1), 7);
        NumberFerries y = told("person 5 0;exact 5 1 1 1;exact 5 0 1 9;exact 5 0 1 8");
        due("soonest: the one that is there", y.soonest(1, 1), 8);
        y.cross(1, 1);
        due("soonest: the one that is there now", y.soonest(1, 0), 1);
    }

    private static void promise23To25() {
        promise = 23;
        NumberFerries x = told("person 5 0;person 5 0;child 5 0;exact 10 0 2 3;loose 5 1 1 1");
        due("row(2, 1)", x.row(2, 1), UNKNOWN);
        due("row(-1, 1)", x.row(-1, 1), UNKNOWN);
        due("row(0, 8)", x.row(0, 8), UNKNOWN);
        due("row(0, -1)", x.row(0, -1), UNKNOWN);
        due("row(LOW, HIGH)", x.row(LOW, HIGH), UNKNOWN);
        due("count(6)", x.count(6), 0);
        due("judge()", x.judge(), NONE);
        due("row(0, 3)", x.row(0, 3), 1);
        due("row(1, 1)", x.row(1, 1), 2);
        due("row(1, 2)", x.row(1, 2), 3);
        promise = 25;
        due("judge: the ferry is over there", x.judge(), 2);
        due("count(4)", x.count(4), 0);
        due("count(2)", x.count(2), 0);
        due("count(3)", x.count(3), 2);
        promise = 24;
        due("burn()", x.burn(), 3);
        due("count(6)", x.count(6), 0);
        due("burn()", x.burn(), 0);
        promise = 25;
        due("judge()", x.judge(), NONE);
        int[][] good = {{0, 3}, {1, 1}, {1, 1}, {1, 2}, {0, 0}};
        for (int i = 0; i < good.length; i++) {
            due("row", x.row(good[i][0], good[i][1]), i + 1);
            due("judge", x.judge(), i < 4 ? NONE : 4);
        }
        due("cross(0, 3)", x.cross(0, 3), 1);
        due("judge: from now on", x.judge(), 1);
        due("cross(0, 3)", x.cross(0, 3), 2);
        due("judge()", x.judge(), 4);
        due("doff(0)", x.doff(0), 5);
        due("burn()", x.burn(), 5);
        promise = 23;
        for (int i = 1; i <= 12; i++) due("row(0, 5)", x.row(0, 5), i);
        due("row(0, 5)", x.row(0, 5), FULL);
        due("row(0, 8)", x.row(0, 8), UNKNOWN);
        due("count(6)", x.count(6), 12);
        promise = 25;
        due("judge: all twelve", x.judge(), NONE);
        due("burn()", x.burn(), 12);
        for (int i = 1; i <= 11; i++) due("row(0, 5)", x.row(0, 5), i);
        due("row(0, 7)", x.row(0, 7), 12);
        due("judge: the last", x.judge(), 11);
        due("count(2)", x.count(2), 0);
    }

    private static void promise26() {
        promise = 26;
        NumberFerries x = told(EIGHT, "exact 1 1 1 1;loose 6 0 2 1;turning 5 1 1 1");
        int[] want = {8, 3, 240, 5, 0, 0, 0, 0};
        for (int what = 0; what < 8; what++) due("count(" + what + ")", x.count(what), want[what]);
        x.cross(2, 16);
        x.row(0, 1);
        x.row(0, 1);
        x.noon();
        x.write(59, 1);
        int[] then = {8, 3, 224, 1, 1, 1, 2, 1};
        for (int what = 0; what < 8; what++) due("count(" + what + ")", x.count(what), then[what]);
        due("count(8)", x.count(8), OUTSIDE);
        due("count(-1)", x.count(-1), OUTSIDE);
        due("count(LOW)", x.count(LOW), OUTSIDE);
        due("count(HIGH)", x.count(HIGH), OUTSIDE);
    }

    private static void refusedInOrder() {
        promise = 0;
        NumberFerries x = told("person 5 0;exact 5 0 1 1");
        due("thing(1, 9)", x.thing(1, 9), UNKNOWN);
        due("ferry(1, 9)", x.ferry(1, 9), UNKNOWN);
        due("as(1, 9)", x.as(1, 9), UNKNOWN);
        due("loads(1, 9)", x.loads(1, 9), UNKNOWN);
        due("weighed(2, 0)", x.weighed(2, 0), UNKNOWN);
        due("hats(0, 2, 9)", x.hats(0, 2, 9), UNKNOWN);
        due("stones(0, 2, 0)", x.stones(0, 2, 0), UNKNOWN);
        due("aboard(0, 0, 2, 9)", x.aboard(0, 0, 2, 9), UNKNOWN);
        due("fewest(2, 0, -9)", x.fewest(2, 0, -9), UNKNOWN);
        for (int i = 0; i < 12; i++) x.row(0, 1);
        due("row(1, 1)", x.row(1, 1), UNKNOWN);
        due("row(0, 2)", x.row(0, 2), UNKNOWN);
        due("row(0, 1)", x.row(0, 1), FULL);
    }
}
