/** The boundaries that the document names for things, ferries and crossings: promises 6 to 14. */
public final class BoundsOfCrossingsTest {
    private static final int NONE = Bounds.NONE, UNKNOWN = Bounds.UNKNOWN, OUTSIDE = Bounds.OUTSIDE;
    private static final int NOT = Bounds.NOT, LOW = Bounds.LOW, HIGH = Bounds.HIGH;
    private static final int[] NO_K = {-1, 2, 3, 32, 33, 256, LOW, LOW + 1, HIGH};

    public static void main(String[] args) {
        thingBounds();
        thingRefused();
        ferryBounds();
        ferryTurned();
        ferryRefused();
        asBounds();
        rightBanks();
        rightPerson();
        rightRoom();
        rightPounds();
        rightRefused();
        crossBounds();
        crossRefused();
        doffBounds();
        noonBounds();
        keepBounds();
        backBounds();
        backRefused();
        Bounds.end(6, 14);
    }

    private static void says(int promise, String words) {
        Bounds.says(promise, words);
    }

    private static void due(String call, int got, int want) {
        Bounds.due(call, got, want);
    }

    /** Whats from 0 on, of a thing and of a ferry. */
    private static void thing(NumberFerries x, int thing, int... want) {
        for (int what = 0; what < want.length; what++) {
            due("thing(" + thing + ", " + what + ")", x.thing(thing, what), want[what]);
        }
    }

    private static void ferry(NumberFerries x, int ferry, int... want) {
        for (int what = 0; what < want.length; what++) {
            due("ferry(" + ferry + ", " + what + ")", x.ferry(ferry, what), want[what]);
        }
    }

    private static int[] outside(int least, int most) {
        return new int[] {least - 1, most + 1, most + 2, 32 + least, 256 + least, LOW, LOW + 1, HIGH};
    }

    // ---- 6, thing

    private static void thingBounds() {
        says(6, "KIND (what 0: 0 PERSON, 1 CHILD, 2 BEAST, 3 STONE), WEIGHT (1), BANK (2), HAT (3), 1 it is on, 0 (4),"
            + " WISH (5), 1 UNSURE, 0 (6), POUNDS (7).");
        NumberFerries least = Bounds.told("person 1 0;child 1 0;beast 1 0;stone 1 0;hat 0 0;hat 1 0;wish 0 0;wish 3 0");
        thing(least, 0, 0, 1, 0, 0, 1, 0, 0, 1);
        thing(least, 1, 1, 1, 0, 0, 1, 0, 0, 1);
        thing(least, 2, 2, 1, 0, 0, 0, 0, 0, 1);
        thing(least, 3, 3, 1, 0, 0, 0, 0, 0, 1);
        NumberFerries most = Bounds.told("person 99 1;child 99 1;beast 99 1;stone 99 1;hat 0 9;hat 1 9;wish 0 9;wish 3 9",
            "unsure 0;unsure 1;unsure 2;unsure 3;wish 1 9;wish 2 9");
        thing(most, 0, 0, 99, 1, 9, 1, 9, 1, 108);
        thing(most, 1, 1, 99, 1, 9, 1, 9, 1, 108);
        thing(most, 2, 2, 99, 1, 0, 0, 9, 1, 99);
        thing(most, 3, 3, 99, 1, 0, 0, 9, 1, 99);
        says(6, "POUNDS of one are WEIGHT and that of a HAT that is on.");
        most.doff(0);
        thing(most, 0, 0, 99, 1, 9, 0, 9, 1, 99);
        thing(most, 1, 1, 99, 1, 9, 1, 9, 1, 108);
        most.doff(0);
        due("thing(0, 7)", most.thing(0, 7), 108);
        says(6, "THINGS are 0, 1 .. as they come, 8 at most");
        NumberFerries eight = Bounds.told("stone 1 0;stone 2 1;stone 3 0;stone 4 1", "stone 5 0;stone 6 1;stone 7 0;stone 8 1");
        for (int t = 0; t < 8; t++) thing(eight, t, 3, t + 1, t % 2, 0, 0, 0, 0, t + 1);
        due("thing(8, 0)", eight.thing(8, 0), UNKNOWN);
    }

    private static void thingRefused() {
        says(6, "`int thing(int thing, int what)`");
        for (int t : Bounds.NO_THING) {
            for (int what : new int[] {0, 2, 4, 7, 8, -1}) {
                Bounds.refused(Bounds::day, "thing(" + t + ", " + what + ")", x -> x.thing(t, what), UNKNOWN);
            }
        }
        for (int what : outside(0, 7)) {
            for (int t = 0; t < 5; t += 4) {
                int one = t;
                Bounds.refused(Bounds::day, "thing(" + t + ", " + what + ")", x -> x.thing(one, what), OUTSIDE);
            }
        }
        due("thing(0, 0) of none", new NumberFerries().thing(0, 0), UNKNOWN);
        due("thing(1, 0) of one", Bounds.told("stone 1 0").thing(1, 0), UNKNOWN);
        for (int what = 0; what < 8; what++) {
            int one = what;
            Bounds.onlyTells(Bounds::day, "thing(4, " + what + ")", x -> x.thing(4, one), new int[] {0, 8, 1, 0, 1, 0, 0, 8}[what]);
        }
    }

    // ---- 7, ferry

    private static void ferryBounds() {
        says(7, "KIND (what 0: 0 EXACT, 1 LOOSE, 2 TURNING), THE NUMBER now (1), BANK (2), ROOM (3), MINUTES (4).");
        NumberFerries least = Bounds.told("exact 1 0 1 1;loose 1 0 1 1;turning 1 0 1 1");
        NumberFerries most = Bounds.told("exact 999 1 8 9;loose 999 1 8 9;turning 999 1 8 9");
        for (int f = 0; f < 3; f++) {
            ferry(least, f, f, 1, 0, 1, 1);
            ferry(most, f, f, 999, 1, 8, 9);
        }
        says(7, "of a NUMBER (1 .. 999), a BANK, ROOM (1 .. 8 THINGS), MINUTES of a crossing (1 .. 9)");
        NumberFerries mixed = Bounds.told("turning 2 1 3 4", "exact 10 0 2 3;loose 998 1 7 8");
        ferry(mixed, 0, 2, 2, 1, 3, 4);
        ferry(mixed, 1, 0, 10, 0, 2, 3);
        ferry(mixed, 2, 1, 998, 1, 7, 8);
    }

    private static void ferryTurned() {
        says(7, "THE NUMBER of a TURNING FERRY is read from its last digit to its first in the AFTERNOON"
            + " (30 as 03: 3; 120 as 021: 21), else as it is.");
        int[][] turned = {{30, 3}, {120, 21}, {1, 1}, {9, 9}, {10, 1}, {12, 21}, {90, 9}, {99, 99}, {100, 1},
            {101, 101}, {109, 901}, {110, 11}, {200, 2}, {501, 105}, {990, 99}, {998, 899}, {999, 999}};
        for (int[] pair : turned) {
            String rest = " " + pair[0] + " 0 1 1";
            NumberFerries x = Bounds.told("turning" + rest + ";exact" + rest + ";loose" + rest);
            for (int f = 0; f < 3; f++) due("ferry(" + f + ", 1) in the morning", x.ferry(f, 1), pair[0]);
            x.noon();
            due("ferry(0, 1) of " + pair[0], x.ferry(0, 1), pair[1]);
            due("ferry(1, 1): exact does not turn", x.ferry(1, 1), pair[0]);
            due("ferry(2, 1): loose does not turn", x.ferry(2, 1), pair[0]);
            x.noon();
            due("ferry(0, 1) in the morning again", x.ferry(0, 1), pair[0]);
        }
        // Noughts ahead in THE TEXT are none of the number's digits.
        NumberFerries x = Bounds.told("turning 003 0 1 1;turning 030 0 1 1");
        x.noon();
        due("ferry(0, 1) of 003", x.ferry(0, 1), 3);
        due("ferry(1, 1) of 030", x.ferry(1, 1), 3);
    }

    private static void ferryRefused() {
        says(7, "`int ferry(int ferry, int what)`");
        for (int f : Bounds.NO_FERRY) {
            for (int what : new int[] {0, 1, 2, 4, 5, -1}) {
                Bounds.refused(Bounds::day, "ferry(" + f + ", " + what + ")", x -> x.ferry(f, what), UNKNOWN);
            }
        }
        for (int what : outside(0, 4)) {
            Bounds.refused(Bounds::day, "ferry(0, " + what + ")", x -> x.ferry(0, what), OUTSIDE);
            Bounds.refused(Bounds::day, "ferry(2, " + what + ")", x -> x.ferry(2, what), OUTSIDE);
        }
        due("ferry(0, 0) of none", new NumberFerries().ferry(0, 0), UNKNOWN);
        due("ferry(1, 0) of one", Bounds.told("exact 1 0 1 1").ferry(1, 0), UNKNOWN);
        for (int what = 0; what < 5; what++) {
            int one = what;
            Bounds.onlyTells(Bounds::day, "ferry(2, " + what + ")", x -> x.ferry(2, one), new int[] {2, 18, 0, 4, 3}[what]);
        }
    }

    // ---- 8, as

    private static void asBounds() {
        says(8, "THING (0); BODY (1) under it; PERSON (2) is a BODY; CHILD (3) is a PERSON as to kinds alone"
            + " (it is of its own KIND); BEAST (4) is a BODY; STONE (5) is a THING.");
        int[][] want = {{12, 12, 12, NOT, NOT, NOT}, {5, 5, 5, 5, NOT, NOT},
            {3, 3, NOT, NOT, 3, NOT}, {2, NOT, NOT, NOT, NOT, 2}};
        for (int t = 0; t < 4; t++) {
            for (int kind = 0; kind < 6; kind++) {
                int one = t;
                int as = kind;
                Bounds.onlyTells(Bounds::day, "as(" + t + ", " + kind + ")", x -> x.as(one, as), want[t][kind]);
            }
        }
        due("thing(1, 0): a child is of its own kind", Bounds.day().thing(1, 0), 1);
        due("right(2, 2): a child is no person aboard", Bounds.told("child 5 0;exact 5 0 1 1").right(0, 1), 0);
        says(8, "NOT: it is none such.");
        Bounds.refused(Bounds::day, "as(0, 3)", x -> x.as(0, 3), NOT);
        Bounds.refused(Bounds::day, "as(2, 2)", x -> x.as(2, 2), NOT);
        Bounds.refused(Bounds::day, "as(3, 1)", x -> x.as(3, 1), NOT);
        says(8, "A THING taken as a KIND (0 .. 5, as they are over one another): its POUNDS. UNKNOWN; OUTSIDE");
        for (int t : Bounds.NO_THING) {
            for (int kind : new int[] {0, 5, 6, -1, LOW}) {
                Bounds.refused(Bounds::day, "as(" + t + ", " + kind + ")", x -> x.as(t, kind), UNKNOWN);
            }
        }
        for (int kind : outside(0, 5)) {
            Bounds.refused(Bounds::day, "as(0, " + kind + ")", x -> x.as(0, kind), OUTSIDE);
            Bounds.refused(Bounds::day, "as(3, " + kind + ")", x -> x.as(3, kind), OUTSIDE);
        }
        due("as(0, 0) of none", new NumberFerries().as(0, 0), UNKNOWN);
        NumberFerries x = Bounds.day();
        x.doff(1);
        due("as(1, 3): with the hat", x.as(1, 3), 6);
    }

    // ---- 9, right

    private static void rightBanks() {
        says(9, "all of it are on its BANK");
        NumberFerries x = Bounds.told("person 5 0;person 5 1;stone 5 0;stone 5 1;exact 5 0 8 1;exact 10 0 8 1;exact 10 1 8 1");
        due("right(0, 1)", x.right(0, 1), 1);
        due("right(0, 2): on the other bank", x.right(0, 2), 0);
        due("right(1, 5)", x.right(1, 5), 1);
        due("right(1, 9): one of two on the other", x.right(1, 9), 0);
        due("right(1, 3): one of two on the other", x.right(1, 3), 0);
        due("right(1, 10): both on the other", x.right(1, 10), 0);
        due("right(2, 10)", x.right(2, 10), 1);
        due("right(2, 5)", x.right(2, 5), 0);
        due("right(2, 6)", x.right(2, 6), 0);
        due("cross(1, 5)", x.cross(1, 5), 1);
        due("right(1, 5): over there", x.right(1, 5), 1);
        due("right(0, 1): no longer here", x.right(0, 1), 0);
        due("right(2, 3): come over", x.right(2, 3), 1);
    }

    private static void rightPerson() {
        says(9, "it has one of KIND PERSON");
        NumberFerries x = Bounds.told("person 5 0;child 5 0;beast 5 0;stone 5 0;person 5 0;exact 5 0 8 1;exact 10 0 8 1");
        int[] alone = {1, 0, 0, 0, 1};
        for (int t = 0; t < 5; t++) due("right(0, " + (1 << t) + ")", x.right(0, 1 << t), alone[t]);
        due("right(1, 6): a child and a beast", x.right(1, 6), 0);
        due("right(1, 3): a child with a person", x.right(1, 3), 1);
        due("right(1, 17): two persons do as well", x.right(1, 17), 1);
        due("right(0, 0): nobody", x.right(0, 0), 0);
        due("right(0, 0): nobody at all", Bounds.told("loose 1 0 8 1").right(0, 0), 0);
    }

    private static void rightRoom() {
        says(9, "no more THINGS than ROOM");
        String eight = "person 1 0;child 1 0;beast 1 0;stone 1 0;person 1 0;child 1 0;beast 1 0;stone 1 0";
        for (int room = 1; room <= 8; room++) {
            for (int n = 1; n <= 8; n++) {
                NumberFerries x = Bounds.told(eight, "exact " + n + " 0 " + room + " 1");
                due("right of " + n + " with room for " + room, x.right(0, (1 << n) - 1), n <= room ? 1 : 0);
            }
        }
    }

    private static void rightPounds() {
        says(9, "its POUNDS together are THE NUMBER; for a LOOSE one, or one more or one less.");
        NumberFerries x = Bounds.told("person 10 0;person 11 0;person 12 0;person 13 0;person 14 0",
            "exact 12 0 1 1;loose 12 0 1 1;turning 12 0 1 1");
        int[][] want = {{0, 0, 1, 0, 0}, {0, 1, 1, 1, 0}, {0, 0, 1, 0, 0}};
        for (int f = 0; f < 3; f++) {
            for (int t = 0; t < 5; t++) due("right(" + f + ", " + (1 << t) + ")", x.right(f, 1 << t), want[f][t]);
        }
        x.noon();
        due("right(2, 4): turned to 21", x.right(2, 4), 0);
        due("right(2, 4): exact stays", x.right(0, 4), 1);
        NumberFerries hats = Bounds.told("person 10 0;hat 0 2;exact 12 0 1 1;exact 10 0 1 1");
        due("right(0, 1): with the hat", hats.right(0, 1), 1);
        due("right(1, 1)", hats.right(1, 1), 0);
        hats.doff(0);
        due("right(0, 1): without it", hats.right(0, 1), 0);
        due("right(1, 1)", hats.right(1, 1), 1);
        // The heaviest load there can be, and the lightest ferry.
        NumberFerries most = Bounds.told("person 99 0;person 99 0;person 99 0;person 99 0;person 99 0;person 99 0;person 99 0;person 99 0",
            "hat 0 9;hat 1 9;hat 2 9;hat 3 9;hat 4 9;hat 5 9;hat 6 9;hat 7 9", "exact 864 0 8 1;loose 865 0 8 1;loose 866 0 8 1");
        due("right(0, 255)", most.right(0, 255), 1);
        due("right(1, 255)", most.right(1, 255), 1);
        due("right(2, 255)", most.right(2, 255), 0);
        NumberFerries light = Bounds.told("person 1 0;person 2 0;person 3 0;loose 1 0 8 1;loose 999 0 8 1");
        due("right(0, 1)", light.right(0, 1), 1);
        due("right(0, 2): one more", light.right(0, 2), 1);
        due("right(0, 4): two more", light.right(0, 4), 0);
        due("right(0, 0): one less, but nobody", light.right(0, 0), 0);
        due("right(1, 7)", light.right(1, 7), 0);
    }

    private static void rightRefused() {
        says(9, "Whether a LOAD is RIGHT for a FERRY now (1, 0). UNKNOWN.");
        for (int f : Bounds.NO_FERRY) {
            Bounds.refused(Bounds::day, "right(" + f + ", 5)", x -> x.right(f, 5), UNKNOWN);
            Bounds.refused(Bounds::day, "right(" + f + ", 32)", x -> x.right(f, 32), UNKNOWN);
        }
        for (int load : Bounds.NO_SET) {
            Bounds.refused(Bounds::day, "right(0, " + load + ")", x -> x.right(0, load), UNKNOWN);
        }
        Bounds.onlyTells(Bounds::day, "right(0, 5)", x -> x.right(0, 5), 1);
        Bounds.onlyTells(Bounds::day, "right(2, 31)", x -> x.right(2, 31), 0);
        due("right(0, 0) of none", new NumberFerries().right(0, 0), UNKNOWN);
        due("right(0, 0): things, but no ferry", Bounds.told("person 1 0").right(0, 1), UNKNOWN);
        due("right(0, 1): a ferry, but no things", Bounds.told("exact 1 0 1 1").right(0, 1), UNKNOWN);
        says(9, "UNKNOWN (no such THING, FERRY, BANK; a set with such THINGS)");
        for (int n = 1; n <= 8; n++) {
            NumberFerries x = Bounds.told("person 1 0" + ";stone 1 0".repeat(n - 1) + ";exact 1 0 8 1");
            due("right(0, all of " + n + ")", x.right(0, (1 << n) - 1), n == 1 ? 1 : 0);
            due("right(0, one more)", x.right(0, 1 << n), UNKNOWN);
            due("right(0, one that is, one that is not)", x.right(0, 1 << n | 1), UNKNOWN);
        }
    }

    // ---- 10, cross

    private static void crossBounds() {
        says(10, "A CROSSING takes a LOAD that is RIGHT, and the FERRY, to the other BANK.");
        NumberFerries x = Bounds.told("person 5 0;stone 5 0;person 5 1;beast 5 1;exact 10 0 2 1;exact 10 1 2 1;exact 5 1 1 1");
        due("cross(0, 3)", x.cross(0, 3), 1);
        due("count(2)", x.count(2), 15);
        due("count(3)", x.count(3), 7);
        due("cross(1, 9)", x.cross(1, 9), 2);
        due("count(2)", x.count(2), 6);
        due("count(3)", x.count(3), 5);
        due("cross(0, 6)", x.cross(0, 6), 3);
        due("count(2)", x.count(2), 0);
        due("count(3)", x.count(3), 4);
        says(10, "how many there were in all");
        NumberFerries y = Bounds.told("person 5 0;person 5 0;exact 5 0 1 1;loose 5 0 1 1");
        for (int i = 1; i <= 490; i++) {
            if (y.cross(i % 4 < 2 ? 0 : 1, i % 4 < 2 ? 1 : 2) != i) due("cross: the " + i + "-th", y.count(4), i);
        }
        due("count(4): it is not turned round", y.count(4), 490);
        due("keep(0)", y.keep(0), 490);
        due("cross(0, 1)", y.cross(0, 1), 491);
        due("back(0)", y.back(0), 490);
        due("cross(0, 1)", y.cross(0, 1), 491);
    }

    private static void crossRefused() {
        says(10, "NOT: it is not RIGHT.");
        for (int f = 0; f < 3; f++) {
            for (int load = 0; load < 32; load++) {
                int one = f;
                int all = load;
                // Of all loads only these are right on that day.
                boolean good = f == 0 && load == 5 || f == 1 && load == 16;
                if (!good) Bounds.refused(Bounds::day, "cross(" + f + ", " + load + ")", x -> x.cross(one, all), NOT);
                else due("cross(" + f + ", " + load + ")", Bounds.day().cross(f, load), 2);
            }
        }
        says(10, "A CROSSING: how many there were in all. UNKNOWN");
        for (int f : Bounds.NO_FERRY) {
            Bounds.refused(Bounds::day, "cross(" + f + ", 5)", x -> x.cross(f, 5), UNKNOWN);
            Bounds.refused(Bounds::day, "cross(" + f + ", 0)", x -> x.cross(f, 0), UNKNOWN);
        }
        for (int load : Bounds.NO_SET) {
            Bounds.refused(Bounds::day, "cross(0, " + load + ")", x -> x.cross(0, load), UNKNOWN);
        }
        due("cross(0, 0) of none", new NumberFerries().cross(0, 0), UNKNOWN);
        NumberFerries x = Bounds.day();
        due("cross(0, 5)", x.cross(0, 5), 2);
        due("count(6): THE ROW stays", x.count(6), 3);
        due("count(7): THE TEXT stays", x.count(7), 15);
        due("count(5): the time of day stays", x.count(5), 1);
        due("thing(1, 4): HATS stay", x.thing(1, 4), 0);
    }

    // ---- 11, doff

    private static void doffBounds() {
        says(11, "The HAT of one is taken off, or put on: its POUNDS then.");
        NumberFerries x = Bounds.told("person 99 0;child 1 1;person 7 0;hat 0 9;hat 1 9");
        int[][] pounds = {{99, 108}, {1, 10}, {7, 7}};
        for (int t = 0; t < 3; t++) {
            for (int i = 0; i < 4; i++) {
                due("doff(" + t + ")", x.doff(t), pounds[t][i % 2]);
                due("thing(" + t + ", 4)", x.thing(t, 4), i % 2);
                due("thing(" + t + ", 3): the hat itself stays", x.thing(t, 3), t < 2 ? 9 : 0);
            }
        }
        x.doff(0);
        due("thing(1, 4): another's hat stays", x.thing(1, 4), 1);
        says(11, "NOT: it is no PERSON, no CHILD.");
        Bounds.refused(Bounds::day, "doff(2)", y -> y.doff(2), NOT);
        Bounds.refused(Bounds::day, "doff(3)", y -> y.doff(3), NOT);
        says(11, "its POUNDS then. UNKNOWN");
        for (int t : Bounds.NO_THING) Bounds.refused(Bounds::day, "doff(" + t + ")", y -> y.doff(t), UNKNOWN);
        due("doff(0) of none", new NumberFerries().doff(0), UNKNOWN);
    }

    // ---- 12, noon

    private static void noonBounds() {
        says(12, "NOON: MORNING becomes AFTERNOON, or that MORNING again.");
        NumberFerries x = Bounds.told("person 21 0;turning 12 0 1 1");
        for (int i = 1; i <= 200; i++) {
            if (x.noon() != i % 2) due("noon: the " + i + "-th", x.count(5), i % 2);
        }
        due("count(5)", x.count(5), 0);
        says(12, "NOON: 1 it is AFTERNOON then, 0.");
        due("noon() of nothing told", new NumberFerries().noon(), 1);
        due("noon()", x.noon(), 1);
        due("count(5)", x.count(5), 1);
        due("right(0, 1)", x.right(0, 1), 1);
        due("noon()", x.noon(), 0);
        due("count(5)", x.count(5), 0);
        due("right(0, 1)", x.right(0, 1), 0);
        NumberFerries day = Bounds.day();
        due("noon()", day.noon(), 0);
        due("count(2)", day.count(2), 21);
        due("count(4)", day.count(4), 1);
        due("count(6)", day.count(6), 3);
        due("thing(1, 4)", day.thing(1, 4), 0);
    }

    // ---- 13 and 14, keep and back

    private static void keepBounds() {
        says(13, "BANKS, HATS, the time of day, CROSSINGS are kept (k 0, 1): CROSSINGS.");
        NumberFerries x = Bounds.day();
        due("keep(1)", x.keep(1), 1);
        due("keep(0): in the place of what was kept", x.keep(0), 1);
        due("cross(1, 16)", x.cross(1, 16), 2);
        due("keep(1)", x.keep(1), 2);
        due("back(0)", x.back(0), 1);
        due("count(2)", x.count(2), 21);
        due("back(1)", x.back(1), 2);
        due("count(2)", x.count(2), 5);
        due("keep(0) of nothing told", new NumberFerries().keep(0), 0);
        due("keep(1) of nothing told", new NumberFerries().keep(1), 0);
        NumberFerries day = Bounds.day();
        day.keep(1);
        due("count(2): what is stays", day.count(2), 21);
        due("count(4)", day.count(4), 1);
        due("count(5)", day.count(5), 1);
        due("count(6)", day.count(6), 3);
        due("count(7)", day.count(7), 15);
        says(13, "UNKNOWN: no such k.");
        for (int k : NO_K) Bounds.refused(Bounds::day, "keep(" + k + ")", y -> y.keep(k), UNKNOWN);
    }

    private static void backBounds() {
        says(14, "They are as they were kept: likewise.");
        for (int k = 0; k < 2; k++) {
            NumberFerries x = Bounds.day();
            due("keep(" + k + ")", x.keep(k), 1);
            x.cross(0, 5);
            x.cross(1, 16);
            x.doff(0);
            x.doff(1);
            x.noon();
            x.keep(1 - k);
            for (int again = 0; again < 2; again++) {
                due("back(" + k + ")", x.back(k), 1);
                due("count(2): BANKS", x.count(2), 21);
                due("count(3): BANKS", x.count(3), 3);
                due("thing(0, 7): HATS", x.thing(0, 7), 12);
                due("thing(1, 7): HATS", x.thing(1, 7), 5);
                due("thing(0, 4): HATS", x.thing(0, 4), 1);
                due("thing(1, 4): HATS", x.thing(1, 4), 0);
                due("count(5): the time of day", x.count(5), 1);
                due("count(4): CROSSINGS", x.count(4), 1);
                due("count(6): THE ROW is not kept", x.count(6), 3);
                due("count(7): THE TEXT is not kept", x.count(7), 15);
                due("right(0, 5): weighed again", x.right(0, 5), 1);
                x.doff(0);
                x.noon();
                x.burn();
                for (int i = 0; i < 3; i++) x.row(0, 5);
            }
            due("back(" + (1 - k) + "): the other is its own", x.back(1 - k), 3);
            due("count(2)", x.count(2), 0);
            due("thing(0, 4)", x.thing(0, 4), 0);
            due("thing(1, 4)", x.thing(1, 4), 1);
            due("count(5)", x.count(5), 0);
        }
    }

    private static void backRefused() {
        says(14, "NOT: nothing was kept since the last text.");
        Bounds.refused(Bounds::day, "back(1): only 0 is kept", x -> x.back(1), NOT);
        Bounds.refused(NumberFerries::new, "back(0) of a new one", x -> x.back(0), NOT);
        Bounds.refused(NumberFerries::new, "back(1) of a new one", x -> x.back(1), NOT);
        for (int k = 0; k < 2; k++) {
            int one = k;
            Bounds.refused(() -> keptThenTold("wish 0 1"), "back(" + k + ") behind a text", x -> x.back(one), NOT);
            due("back(" + k + ") behind a fault", keptThenTold("wish 9 1").back(k), 1);
            due("back(" + k + ") behind a text that is not done", keptThenTold("").back(k), 1);
        }
        NumberFerries fresh = new NumberFerries();
        fresh.keep(1);
        fresh.noon();
        due("back(1) before any text", fresh.back(1), 0);
        due("count(5)", fresh.count(5), 0);
        due("back(0)", fresh.back(0), NOT);
        says(14, "likewise. UNKNOWN; NOT");
        for (int k : NO_K) {
            Bounds.refused(Bounds::day, "back(" + k + ")", x -> x.back(k), UNKNOWN);
            Bounds.refused(NumberFerries::new, "back(" + k + ")", x -> x.back(k), UNKNOWN);
        }
    }

    private static NumberFerries keptThenTold(String text) {
        NumberFerries x = Bounds.day();
        x.keep(0);
        x.keep(1);
        x.erase();
        Bounds.put(x, text);
        x.shore();
        return x;
    }
}
