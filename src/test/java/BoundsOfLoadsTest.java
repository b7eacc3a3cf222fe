/** The boundaries that the document names for loads: promises 15 to 20. */
public final class BoundsOfLoadsTest {
    private static final int NONE = Bounds.NONE, UNKNOWN = Bounds.UNKNOWN, OUTSIDE = Bounds.OUTSIDE;
    private static final int LOW = Bounds.LOW, HIGH = Bounds.HIGH;

    public static void main(String[] args) {
        loadsBounds();
        loadsWishes();
        loadsRefused();
        weighedBounds();
        weighedRefused();
        hatsBounds();
        hatsOthers();
        hatsRight();
        hatsRefused();
        stonesBounds();
        stonesRoom();
        stonesRefused();
        sureBounds();
        sureRefused();
        aboardBounds();
        aboardSets();
        aboardRefused();
        Bounds.end(15, 20);
    }

    private static void says(int promise, String words) {
        Bounds.says(promise, words);
    }

    private static void due(String call, int got, int want) {
        Bounds.due(call, got, want);
    }

    private static int[] outside(int least, int most) {
        return new int[] {least - 1, most + 1, most + 2, 32 + least, 256 + least, 65536 + least, LOW, LOW + least, HIGH};
    }

    // ---- 15, loads

    private static void loads(NumberFerries x, int ferry, int... want) {
        for (int what = 0; what < 4; what++) due("loads(" + ferry + ", " + what + ")", x.loads(ferry, what), want[what]);
    }

    private static void loadsBounds() {
        says(15, "LOADS that are RIGHT for a FERRY: how many, the least");
        NumberFerries x = Bounds.told("stone 1 0;person 1 0;person 1 0;stone 1 1;exact 1 0 8 1;exact 2 0 8 1;exact 3 0 8 1");
        loads(x, 0, 2, 2, 2, 0);
        loads(x, 1, 3, 3, 3, 0);
        loads(x, 2, 1, 7, 7, 0);
        NumberFerries all = Bounds.told("person 1 0;person 1 0;person 1 0;person 1 0;person 1 0;person 1 0;person 1 0;person 1 0",
            "exact 4 0 8 1;exact 8 0 8 1;loose 8 0 8 1");
        loads(all, 0, 70, 15, 15, 0);
        loads(all, 1, 1, 255, 255, 0);
        loads(all, 2, 9, 127, 127, 0);
        NumberFerries last = Bounds.told("person 2 0;person 2 0;person 2 0;person 2 0;person 2 0;person 2 0;person 2 0;person 1 0",
            "exact 1 0 8 1");
        loads(last, 0, 1, 128, 128, 0);
        says(15, "FORETOLD from now, HATS and time of day as they are (nothing changes).");
        NumberFerries turn = Bounds.told("person 20 0;hat 0 1;turning 12 0 1 1;exact 20 0 1 1");
        loads(turn, 0, 0, NONE, NONE, NONE);
        turn.noon();
        loads(turn, 0, 1, 1, 1, 0);
        loads(turn, 1, 0, NONE, NONE, NONE);
        turn.doff(0);
        loads(turn, 0, 0, NONE, NONE, NONE);
        loads(turn, 1, 1, 1, 1, 0);
        turn.cross(1, 1);
        loads(turn, 1, 1, 1, 1, 0);
        for (int what = 0; what < 4; what++) {
            int one = what;
            Bounds.onlyTells(Bounds::day, "loads(0, " + what + ")", y -> y.loads(0, one), new int[] {1, 5, 5, 4}[what]);
        }
    }

    private static void loadsWishes() {
        says(15, "the one with the greatest WISHES together; of several the least.");
        String three = "person 5 0;person 5 0;person 5 0;";
        loads(Bounds.told(three + "exact 5 0 1 1"), 0, 3, 1, 1, 0);
        loads(Bounds.told(three + "exact 5 0 1 1;wish 0 9;wish 1 8;wish 2 8"), 0, 3, 1, 1, 9);
        loads(Bounds.told(three + "exact 5 0 1 1;wish 0 8;wish 1 9;wish 2 8"), 0, 3, 1, 2, 9);
        loads(Bounds.told(three + "exact 5 0 1 1;wish 0 8;wish 1 8;wish 2 9"), 0, 3, 1, 4, 9);
        loads(Bounds.told(three + "exact 5 0 1 1;wish 1 1;wish 2 1"), 0, 3, 1, 2, 1);
        loads(Bounds.told(three + "exact 5 0 1 1;wish 0 1;wish 2 1"), 0, 3, 1, 1, 1);
        // 1 and 2 wish 5 together, 0 alone 4; together, not the greatest of one.
        loads(Bounds.told("person 10 0;person 5 0;stone 5 0;exact 10 0 2 1;wish 0 4;wish 1 2;wish 2 3"), 0, 2, 1, 6, 5);
        loads(Bounds.told("person 10 0;person 5 0;stone 5 0;exact 10 0 2 1;wish 0 4;wish 1 2;wish 2 2"), 0, 2, 1, 1, 4);
        // Wishes of those who stay do not count, nor those of the other bank.
        loads(Bounds.told("person 5 0;person 6 0;person 5 1;exact 5 0 1 1;wish 1 9;wish 2 9"), 0, 1, 1, 1, 0);
        loads(Bounds.told("person 1 0;person 1 0;person 1 0;person 1 0;person 1 0;person 1 0;person 1 0;person 1 0",
            "wish 0 9;wish 1 9;wish 2 9;wish 3 9;wish 4 9;wish 5 9;wish 6 9;wish 7 9", "exact 8 0 8 1"), 0, 1, 255, 255, 72);
    }

    private static void loadsRefused() {
        says(15, "LOADS: how many (what 0), the least (1), that with the greatest WISHES (2), these (3);"
            + " NONE: there is none (of 1, 2, 3).");
        loads(Bounds.day(), 2, 0, NONE, NONE, NONE);
        loads(Bounds.told("exact 1 0 1 1"), 0, 0, NONE, NONE, NONE);
        loads(Bounds.told("child 1 0;wish 0 9;exact 1 0 1 1"), 0, 0, NONE, NONE, NONE);
        loads(Bounds.told("person 1 1;wish 0 9;exact 1 0 1 1"), 0, 0, NONE, NONE, NONE);
        says(15, "(of 1, 2, 3). UNKNOWN; OUTSIDE.");
        for (int f : Bounds.NO_FERRY) {
            for (int what : new int[] {0, 3, 4, -1}) {
                Bounds.refused(Bounds::day, "loads(" + f + ", " + what + ")", x -> x.loads(f, what), UNKNOWN);
            }
        }
        for (int what : outside(0, 3)) {
            Bounds.refused(Bounds::day, "loads(0, " + what + ")", x -> x.loads(0, what), OUTSIDE);
            Bounds.refused(Bounds::day, "loads(2, " + what + ")", x -> x.loads(2, what), OUTSIDE);
        }
        due("loads(0, 0) of none", new NumberFerries().loads(0, 0), UNKNOWN);
    }

    // ---- 16, weighed

    private static void weighedBounds() {
        says(16, "WEIGHED: LOADS of a BANK (with a PERSON or not, one THING at least) whose POUNDS are p: how many.");
        NumberFerries x = Bounds.told("person 1 0;child 1 0;beast 1 0;stone 1 0;person 1 1;stone 1 1;beast 3 1");
        int[] here = {4, 6, 4, 1, 0};
        int[] there = {2, 1, 1, 2, 1, 0};
        for (int p = 1; p <= 5; p++) due("weighed(0, " + p + ")", x.weighed(0, p), here[p - 1]);
        for (int p = 1; p <= 6; p++) due("weighed(1, " + p + ")", x.weighed(1, p), there[p - 1]);
        due("weighed(0, 1): no person", Bounds.told("stone 1 0").weighed(0, 1), 1);
        due("weighed(0, 1): no thing at all", new NumberFerries().weighed(0, 1), 0);
        due("weighed(1, 999): no thing at all", new NumberFerries().weighed(1, 999), 0);
        NumberFerries empty = Bounds.told("person 1 0;exact 1 0 1 1");
        due("weighed(1, 1): an empty bank", empty.weighed(1, 1), 0);
        empty.cross(0, 1);
        due("weighed(1, 1): now", empty.weighed(1, 1), 1);
        due("weighed(0, 1): now", empty.weighed(0, 1), 0);
        NumberFerries hat = Bounds.told("person 1 0;hat 0 9");
        due("weighed(0, 10): with the hat", hat.weighed(0, 10), 1);
        hat.doff(0);
        due("weighed(0, 10): without it", hat.weighed(0, 10), 0);
        due("weighed(0, 1): without it", hat.weighed(0, 1), 1);
        NumberFerries most = Bounds.told("person 99 1;person 99 1;person 99 1;person 99 1;person 99 1;person 99 1;person 99 1;person 99 1",
            "hat 0 9;hat 1 9;hat 2 9;hat 3 9;hat 4 9;hat 5 9;hat 6 9;hat 7 9");
        due("weighed(1, 864): all there can be", most.weighed(1, 864), 1);
        due("weighed(1, 432)", most.weighed(1, 432), 70);
        due("weighed(1, 865)", most.weighed(1, 865), 0);
        Bounds.onlyTells(Bounds::day, "weighed(1, 15)", y -> y.weighed(1, 15), 1);
        Bounds.onlyTells(Bounds::day, "weighed(0, 7)", y -> y.weighed(0, 7), 1);
    }

    private static void weighedRefused() {
        says(16, "UNKNOWN: BANK; OUTSIDE: p (1 .. 999).");
        for (int bank : Bounds.NO_BANK) {
            for (int p : new int[] {1, 999, 0, 1000, LOW}) {
                Bounds.refused(Bounds::day, "weighed(" + bank + ", " + p + ")", x -> x.weighed(bank, p), UNKNOWN);
            }
        }
        for (int p : outside(1, 999)) {
            if (p >= 1 && p <= 999) continue;
            Bounds.refused(Bounds::day, "weighed(0, " + p + ")", x -> x.weighed(0, p), OUTSIDE);
            Bounds.refused(NumberFerries::new, "weighed(1, " + p + ")", x -> x.weighed(1, p), OUTSIDE);
        }
        due("weighed(0, 1)", Bounds.day().weighed(0, 1), 0);
        due("weighed(0, 999)", Bounds.day().weighed(0, 999), 0);
    }

    // ---- 17, hats

    private static void hats(NumberFerries x, int ferry, int load, int howMany, int whose) {
        due("hats(" + ferry + ", " + load + ", 0)", x.hats(ferry, load, 0), howMany);
        due("hats(" + ferry + ", " + load + ", 1)", x.hats(ferry, load, 1), whose);
    }

    private static void hatsBounds() {
        says(17, "HATS: the fewest HATS of those of a told LOAD to be off");
        String three = "person 10 0;child 10 0;person 10 0;hat 0 1;hat 1 2;hat 2 3;";
        hats(Bounds.told(three + "exact 36 0 3 1"), 0, 7, 0, 0);
        hats(Bounds.told(three + "exact 35 0 3 1"), 0, 7, 1, 1);
        hats(Bounds.told(three + "exact 34 0 3 1"), 0, 7, 1, 2);
        // 3 pounds: the third hat alone, rather than the first two.
        hats(Bounds.told(three + "exact 33 0 3 1"), 0, 7, 1, 4);
        hats(Bounds.told(three + "exact 32 0 3 1"), 0, 7, 2, 5);
        hats(Bounds.told(three + "exact 31 0 3 1"), 0, 7, 2, 6);
        hats(Bounds.told(three + "exact 30 0 3 1"), 0, 7, 3, 7);
        hats(Bounds.told(three + "exact 29 0 3 1"), 0, 7, NONE, NONE);
        hats(Bounds.told(three + "exact 37 0 3 1"), 0, 7, NONE, NONE);
        hats(Bounds.told(three + "loose 37 0 3 1"), 0, 7, 0, 0);
        hats(Bounds.told(three + "loose 38 0 3 1"), 0, 7, NONE, NONE);
        hats(Bounds.told(three + "loose 29 0 3 1"), 0, 7, 3, 7);
        hats(Bounds.told(three + "loose 28 0 3 1"), 0, 7, NONE, NONE);
        // A pound more than it asks is as good: one hat of 3 or of 2 does for 32.
        hats(Bounds.told(three + "loose 32 0 3 1"), 0, 7, 1, 4);
        hats(Bounds.told(three + "turning 53 0 3 1"), 0, 7, NONE, NONE);
        // Of those of the load: the hat of one who stays is no help.
        hats(Bounds.told(three + "exact 20 0 3 1"), 0, 3, 2, 3);
        hats(Bounds.told(three + "exact 19 0 3 1"), 0, 3, NONE, NONE);
        says(17, "of several sets the least; none.");
        String alike = "person 10 0;person 10 0;person 10 0;hat 0 2;hat 1 2;hat 2 2;";
        hats(Bounds.told(alike + "exact 34 0 3 1"), 0, 7, 1, 1);
        hats(Bounds.told(alike + "exact 32 0 3 1"), 0, 7, 2, 3);
        hats(Bounds.told(alike + "exact 22 0 3 1"), 0, 6, 1, 2);
        hats(Bounds.told(alike + "exact 33 0 3 1"), 0, 7, NONE, NONE);
        // Hats of no pounds change nothing, and stay on.
        hats(Bounds.told("person 10 0;person 10 0;hat 1 1;exact 20 0 2 1"), 0, 3, 1, 2);
        hats(Bounds.told("person 10 0;person 10 0;exact 20 0 2 1"), 0, 3, 0, 0);
    }

    private static void hatsOthers() {
        says(17, "(all others on)");
        NumberFerries x = Bounds.told("person 10 0;child 10 0;hat 0 1;hat 1 2;exact 23 0 3 1;exact 22 0 3 1;exact 20 0 3 1");
        for (int off = 0; off < 4; off++) {
            // Which hats are off now is all one.
            hats(x, 0, 3, 0, 0);
            hats(x, 1, 3, 1, 1);
            hats(x, 2, 3, 2, 3);
            x.doff(off % 2);
        }
        x.doff(0);
        due("thing(0, 4): nothing changes", x.thing(0, 4), 0);
        NumberFerries turn = Bounds.told("person 30 0;hat 0 9;turning 93 0 1 1;turning 30 0 1 1");
        hats(turn, 0, 1, NONE, NONE);
        hats(turn, 1, 1, 1, 1);
        turn.noon();
        hats(turn, 0, 1, 0, 0);
        hats(turn, 1, 1, NONE, NONE);
    }

    private static void hatsRight() {
        says(17, "so that it is RIGHT; of several sets the least");
        NumberFerries x = Bounds.told("person 10 0;child 10 0;person 10 1;beast 10 0;hat 0 2;hat 1 2;hat 2 2",
            "exact 10 0 1 1;exact 20 0 1 1;exact 20 0 2 1");
        hats(x, 0, 1, 1, 1);
        hats(x, 0, 2, NONE, NONE);
        hats(x, 0, 4, NONE, NONE);
        hats(x, 0, 0, NONE, NONE);
        hats(x, 0, 8, NONE, NONE);
        hats(x, 1, 3, NONE, NONE);
        hats(x, 2, 3, 2, 3);
        hats(x, 2, 5, NONE, NONE);
        hats(x, 2, 9, 1, 1);
        hats(x, 2, 10, NONE, NONE);
    }

    private static void hatsRefused() {
        says(17, "HATS for a LOAD of a FERRY: how many (what 0), whose (1); NONE. UNKNOWN; OUTSIDE.");
        Bounds.onlyTells(Bounds::day, "hats(0, 5, 0)", x -> x.hats(0, 5, 0), 0);
        Bounds.onlyTells(Bounds::day, "hats(0, 5, 1)", x -> x.hats(0, 5, 1), 0);
        Bounds.onlyTells(Bounds::day, "hats(2, 2, 1)", x -> x.hats(2, 2, 1), NONE);
        for (int f : Bounds.NO_FERRY) {
            for (int what : new int[] {0, 1, 2, -1}) {
                Bounds.refused(Bounds::day, "hats(" + f + ", 5, " + what + ")", x -> x.hats(f, 5, what), UNKNOWN);
            }
        }
        for (int load : Bounds.NO_SET) {
            for (int what : new int[] {0, 1, 2, -1}) {
                Bounds.refused(Bounds::day, "hats(0, " + load + ", " + what + ")", x -> x.hats(0, load, what), UNKNOWN);
            }
        }
        for (int what : outside(0, 1)) {
            Bounds.refused(Bounds::day, "hats(0, 5, " + what + ")", x -> x.hats(0, 5, what), OUTSIDE);
            Bounds.refused(Bounds::day, "hats(0, 0, " + what + ")", x -> x.hats(0, 0, what), OUTSIDE);
        }
        due("hats(0, 0, 0) of none", new NumberFerries().hats(0, 0, 0), UNKNOWN);
    }

    // ---- 18, stones

    private static void stonesBounds() {
        says(18, "STONES: how many more of w pounds (each takes ROOM) have to go along so that a told LOAD with them"
            + " is RIGHT, the fewest; none.");
        NumberFerries x = Bounds.told("person 10 0;child 10 0;person 10 1;exact 20 0 8 1;loose 20 0 8 1;turning 71 0 8 1");
        due("stones(0, 1, 10)", x.stones(0, 1, 10), 1);
        due("stones(0, 1, 5)", x.stones(0, 1, 5), 2);
        due("stones(0, 1, 2)", x.stones(0, 1, 2), 5);
        due("stones(0, 1, 1): ten would be needed", x.stones(0, 1, 1), NONE);
        due("stones(0, 1, 9): exact, a pound short", x.stones(0, 1, 9), NONE);
        due("stones(0, 1, 11): exact, a pound over", x.stones(0, 1, 11), NONE);
        due("stones(0, 1, 99)", x.stones(0, 1, 99), NONE);
        due("stones(1, 1, 9): loose, a pound short", x.stones(1, 1, 9), 1);
        due("stones(1, 1, 11): loose, a pound over", x.stones(1, 1, 11), 1);
        due("stones(1, 1, 8): loose, two short", x.stones(1, 1, 8), NONE);
        due("stones(1, 1, 12): loose, two over", x.stones(1, 1, 12), NONE);
        due("stones(1, 1, 3): the fewest, not the nearest", x.stones(1, 1, 3), 3);
        due("stones(2, 1, 7)", x.stones(2, 1, 7), NONE);
        x.noon();
        due("stones(2, 1, 7): turned to 17", x.stones(2, 1, 7), 1);
        due("stones(0, 3, 1): it is right without", x.stones(0, 3, 1), 0);
        due("stones(0, 3, 99): it is right without", x.stones(0, 3, 99), 0);
        due("stones(0, 0, 20): nobody", x.stones(0, 0, 20), NONE);
        due("stones(0, 2, 10): no person", x.stones(0, 2, 10), NONE);
        due("stones(0, 4, 10): on the other bank", x.stones(0, 4, 10), NONE);
        due("stones(0, 5, 1): one on the other bank", x.stones(0, 5, 1), NONE);
        NumberFerries hat = Bounds.told("person 10 0;hat 0 9;exact 20 0 8 1;exact 17 0 8 1;loose 1 0 8 1");
        due("stones(0, 1, 1): with the hat", hat.stones(0, 1, 1), 1);
        due("stones(1, 1, 1): too heavy", hat.stones(1, 1, 1), NONE);
        hat.doff(0);
        due("stones(0, 1, 1): without it", hat.stones(0, 1, 1), NONE);
        due("stones(1, 1, 1): without it", hat.stones(1, 1, 1), 7);
        due("stones(2, 1, 1): far too heavy", hat.stones(2, 1, 1), NONE);
        NumberFerries over = Bounds.told("person 11 0;loose 10 0 8 1;exact 10 0 8 1");
        due("stones(0, 1, 1): a pound over is right without", over.stones(0, 1, 1), 0);
        due("stones(0, 1, 2): a pound over is right without", over.stones(0, 1, 2), 0);
        due("stones(1, 1, 1): none can be taken out", over.stones(1, 1, 1), NONE);
    }

    private static void stonesRoom() {
        says(18, "(each takes ROOM)");
        for (int room = 1; room <= 8; room++) {
            for (int more = 0; more <= 8; more++) {
                NumberFerries x = Bounds.told("person 1 0;exact " + (1 + more) + " 0 " + room + " 1");
                due("stones: " + more + " with room for " + room, x.stones(0, 1, 1), 1 + more <= room ? more : NONE);
            }
        }
        NumberFerries x = Bounds.told("person 1 0;person 1 0;person 1 0;exact 3 0 2 1;loose 3 0 3 1;exact 5 0 3 1");
        due("stones(0, 7, 1): no room for the load", x.stones(0, 7, 1), NONE);
        due("stones(0, 3, 1): no room for one", x.stones(0, 3, 1), NONE);
        due("stones(0, 1, 2): room for one", x.stones(0, 1, 2), 1);
        due("stones(2, 3, 3): room for one", x.stones(2, 3, 3), 1);
        due("stones(2, 7, 2): room for none", x.stones(2, 7, 2), NONE);
        due("stones(1, 7, 99): room for none, and none is needed", x.stones(1, 7, 99), 0);
        NumberFerries most = Bounds.told("person 99 0;exact 792 0 8 1;loose 793 0 8 1;loose 794 0 8 1");
        due("stones(0, 1, 99): seven of the heaviest", most.stones(0, 1, 99), 7);
        due("stones(1, 1, 99)", most.stones(1, 1, 99), 7);
        due("stones(2, 1, 99)", most.stones(2, 1, 99), NONE);
    }

    private static void stonesRefused() {
        says(18, "STONES of w (1 .. 99) pounds; NONE. UNKNOWN; OUTSIDE.");
        Bounds.onlyTells(Bounds::day, "stones(0, 1, 3)", x -> x.stones(0, 1, 3), 1);
        Bounds.onlyTells(Bounds::day, "stones(2, 3, 1)", x -> x.stones(2, 3, 1), NONE);
        for (int f : Bounds.NO_FERRY) {
            for (int w : new int[] {1, 99, 0, 100}) {
                Bounds.refused(Bounds::day, "stones(" + f + ", 5, " + w + ")", x -> x.stones(f, 5, w), UNKNOWN);
            }
        }
        for (int load : Bounds.NO_SET) {
            for (int w : new int[] {1, 99, 0, 100}) {
                Bounds.refused(Bounds::day, "stones(0, " + load + ", " + w + ")", x -> x.stones(0, load, w), UNKNOWN);
            }
        }
        for (int w : outside(1, 99)) {
            if (w >= 1 && w <= 99) continue;
            Bounds.refused(Bounds::day, "stones(0, 5, " + w + ")", x -> x.stones(0, 5, w), OUTSIDE);
            Bounds.refused(Bounds::day, "stones(0, 0, " + w + ")", x -> x.stones(0, 0, w), OUTSIDE);
        }
        due("stones(0, 5, 1)", Bounds.day().stones(0, 5, 1), 0);
        due("stones(0, 5, 99)", Bounds.day().stones(0, 5, 99), 0);
        due("stones(0, 0, 1) of none", new NumberFerries().stones(0, 0, 1), UNKNOWN);
    }

    // ---- 19, sure

    private static int sure(String things, String ferry) {
        return Bounds.told(things + ";" + ferry).sure(0);
    }

    private static void sureBounds() {
        says(19, "SURE: LOADS that are RIGHT for a FERRY, whatever each UNSURE one aboard weighs, one pound more,"
            + " less, or just so: how many.");
        due("exact, nobody unsure", sure("person 5 0", "exact 5 0 1 1"), 1);
        due("exact, unsure", sure("person 5 0;unsure 0", "exact 5 0 1 1"), 0);
        due("turning, unsure", sure("person 5 0;unsure 0", "turning 5 0 1 1"), 0);
        due("turning, nobody unsure", sure("person 5 0", "turning 5 0 1 1"), 1);
        due("loose, unsure, just so", sure("person 5 0;unsure 0", "loose 5 0 1 1"), 1);
        due("loose, unsure, one more", sure("person 6 0;unsure 0", "loose 5 0 1 1"), 0);
        due("loose, unsure, one less", sure("person 4 0;unsure 0", "loose 5 0 1 1"), 0);
        due("loose, not unsure, one more", sure("person 6 0", "loose 5 0 1 1"), 1);
        due("loose, not unsure, one less", sure("person 4 0", "loose 5 0 1 1"), 1);
        due("loose, not unsure, two more", sure("person 7 0", "loose 5 0 1 1"), 0);
        due("loose, not unsure, two less", sure("person 3 0", "loose 5 0 1 1"), 0);
        due("loose, two unsure", sure("person 5 0;stone 5 0;unsure 0;unsure 1", "loose 10 0 2 1"), 0);
        due("loose, one of two unsure", sure("person 5 0;stone 5 0;unsure 1", "loose 10 0 2 1"), 1);
        due("an unsure one that stays", sure("person 5 0;stone 5 0;unsure 1", "exact 5 0 2 1"), 1);
        due("the lightest", sure("person 1 0;unsure 0", "loose 1 0 1 1"), 1);
        due("what would be right only by chance", sure("person 4 0;unsure 0", "exact 5 0 1 1"), 0);
        due("no person", sure("child 5 0", "exact 5 0 1 1"), 0);
        due("on the other bank", sure("person 5 1", "exact 5 0 1 1"), 0);
        due("no room", sure("person 5 0;stone 5 0", "exact 10 0 1 1"), 0);
        due("no things", Bounds.told("exact 1 0 1 1").sure(0), 0);
        due("how many", sure("person 5 0;person 5 0;person 5 0;person 5 0;unsure 1", "exact 5 0 1 1"), 3);
        due("all of eight", sure("person 1 0;person 1 0;person 1 0;person 1 0;person 1 0;person 1 0;person 1 0;person 1 0", "loose 8 0 8 1"), 9);
        NumberFerries hat = Bounds.told("person 5 0;hat 0 1;unsure 0;loose 5 0 1 1;turning 50 0 1 1;person 5 1;exact 5 1 1 1");
        due("sure(0): with the hat", hat.sure(0), 0);
        hat.doff(0);
        due("sure(0): without it", hat.sure(0), 1);
        hat.cross(2, 2);
        due("sure(0): another came over", hat.sure(0), 2);
        due("sure(1): in the morning", hat.sure(1), 0);
        hat.noon();
        due("sure(1): in the afternoon", hat.sure(1), 1);
    }

    private static void sureRefused() {
        says(19, "SURE. UNKNOWN.");
        for (int f : Bounds.NO_FERRY) Bounds.refused(Bounds::day, "sure(" + f + ")", x -> x.sure(f), UNKNOWN);
        due("sure(0) of none", new NumberFerries().sure(0), UNKNOWN);
        Bounds.onlyTells(Bounds::day, "sure(0)", x -> x.sure(0), 1);
        Bounds.onlyTells(Bounds::day, "sure(2)", x -> x.sure(2), 0);
    }

    // ---- 20, aboard

    private static void aboard(NumberFerries x, int in, int out, int... want) {
        for (int what = 0; what < 3; what++) {
            due("aboard(0, " + in + ", " + out + ", " + what + ")", x.aboard(0, in, out, what), want[what]);
        }
    }

    private static void aboardBounds() {
        says(20, "how many LOADS it can be; who may be aboard (in any), who must (in all), by bits.");
        // 3, 5, 6, 9, 10.
        NumberFerries x = Bounds.told("person 5 0;person 5 0;child 5 0;beast 5 0;stone 5 1;exact 10 0 2 1");
        aboard(x, 0, 0, 5, 15, 0);
        aboard(x, 1, 0, 3, 15, 1);
        aboard(x, 2, 0, 3, 15, 2);
        aboard(x, 4, 0, 2, 7, 4);
        aboard(x, 8, 0, 2, 11, 8);
        aboard(x, 0, 1, 2, 14, 2);
        aboard(x, 0, 4, 3, 11, 0);
        aboard(x, 0, 12, 1, 3, 3);
        aboard(x, 1, 2, 2, 13, 1);
        aboard(x, 2, 8, 2, 7, 2);
        NumberFerries last = Bounds.told("stone 2 0;stone 2 0;stone 2 0;stone 2 0;stone 2 0;stone 2 0;stone 2 0;person 1 0",
            "exact 1 0 8 1");
        aboard(last, 0, 0, 1, 128, 128);
        aboard(last, 128, 127, 1, 128, 128);
        NumberFerries day = Bounds.day();
        aboard(day, 0, 0, 1, 5, 5);
        day.cross(0, 5);
        aboard(day, 0, 0, 1, 5, 5);
        day.doff(0);
        // 10 pounds now: with the child, or with the beast and the stone.
        aboard(day, 0, 0, 2, 15, 1);
    }

    private static void aboardSets() {
        says(20, "if all of one set were seen aboard, none of another");
        NumberFerries x = Bounds.told("person 5 0;person 5 0;child 5 0;beast 5 0;stone 5 1;exact 10 0 2 1");
        aboard(x, 3, 0, 1, 3, 3);
        aboard(x, 7, 0, 0, NONE, NONE);
        aboard(x, 12, 0, 0, NONE, NONE);
        aboard(x, 31, 0, 0, NONE, NONE);
        aboard(x, 16, 0, 0, NONE, NONE);
        aboard(x, 0, 16, 5, 15, 0);
        aboard(x, 0, 3, 0, NONE, NONE);
        aboard(x, 0, 31, 0, NONE, NONE);
        aboard(x, 1, 1, 0, NONE, NONE);
        aboard(x, 3, 2, 0, NONE, NONE);
        aboard(x, 31, 31, 0, NONE, NONE);
        aboard(x, 5, 26, 1, 5, 5);
        aboard(Bounds.told("exact 1 0 1 1"), 0, 0, 0, NONE, NONE);
    }

    private static void aboardRefused() {
        says(20, "ABOARD: how many (what 0), who may be (1), who must (2; NONE each, if there is none). UNKNOWN; OUTSIDE.");
        Bounds.onlyTells(Bounds::day, "aboard(0, 1, 2, 0)", x -> x.aboard(0, 1, 2, 0), 1);
        Bounds.onlyTells(Bounds::day, "aboard(0, 1, 2, 1)", x -> x.aboard(0, 1, 2, 1), 5);
        Bounds.onlyTells(Bounds::day, "aboard(2, 0, 0, 2)", x -> x.aboard(2, 0, 0, 2), NONE);
        for (int f : Bounds.NO_FERRY) {
            for (int what : new int[] {0, 2, 3, -1}) {
                Bounds.refused(Bounds::day, "aboard(" + f + ", 1, 2, " + what + ")", x -> x.aboard(f, 1, 2, what), UNKNOWN);
            }
        }
        for (int set : Bounds.NO_SET) {
            for (int what : new int[] {0, 2, 3, -1}) {
                Bounds.refused(Bounds::day, "aboard(0, " + set + ", 2, " + what + ")", x -> x.aboard(0, set, 2, what), UNKNOWN);
                Bounds.refused(Bounds::day, "aboard(0, 1, " + set + ", " + what + ")", x -> x.aboard(0, 1, set, what), UNKNOWN);
            }
        }
        for (int what : outside(0, 2)) {
            Bounds.refused(Bounds::day, "aboard(0, 1, 2, " + what + ")", x -> x.aboard(0, 1, 2, what), OUTSIDE);
            Bounds.refused(Bounds::day, "aboard(2, 1, 1, " + what + ")", x -> x.aboard(2, 1, 1, what), OUTSIDE);
        }
        due("aboard(0, 0, 0, 0) of none", new NumberFerries().aboard(0, 0, 0, 0), UNKNOWN);
    }
}
