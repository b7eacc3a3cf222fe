/** The boundaries that the document names for rows of crossings, and for a whole run: promises 21 to 26. */
public final class BoundsOfRowsTest {
    private static final int NONE = Bounds.NONE, UNKNOWN = Bounds.UNKNOWN, OUTSIDE = Bounds.OUTSIDE;
    private static final int NOT = Bounds.NOT, FULL = Bounds.FULL, LOW = Bounds.LOW, HIGH = Bounds.HIGH;
    /** All five come over in 19 crossings, and not in fewer. */
    private static final String LONG_WAY = "person 5 0;person 5 0;person 7 0;beast 3 0;stone 2 0;";

    public static void main(String[] args) {
        fewestBounds();
        fewestFirst();
        fewestLong();
        fewestFromNow();
        fewestRefused();
        soonestBounds();
        soonestRefused();
        rowBounds();
        rowRefused();
        burnBounds();
        judgeBounds();
        judgeFromNow();
        countBounds();
        countRefused();
        refusedInOrder();
        lastCall();
        Bounds.end(21, 26);
    }

    private static void says(int promise, String words) {
        Bounds.says(promise, words);
    }

    private static void due(String call, int got, int want) {
        Bounds.due(call, got, want);
    }

    // ---- 21, fewest

    private static void way(NumberFerries x, int set, int bank, int... want) {
        String call = "fewest(" + set + ", " + bank + ", ";
        due(call + "-1)", x.fewest(set, bank, -1), want.length);
        for (int i = 0; i < want.length; i++) due(call + i + ")", x.fewest(set, bank, i), want[i]);
        for (int i : new int[] {want.length, want.length + 1, 12, 256, HIGH}) {
            due(call + i + ")", x.fewest(set, bank, Math.max(i, want.length)), NONE);
        }
    }

    private static void never(NumberFerries x, int set, int bank) {
        for (int i : new int[] {-1, 0, 1, HIGH}) {
            due("fewest(" + set + ", " + bank + ", " + i + "): never", x.fewest(set, bank, i), NONE);
        }
    }

    private static void fewestBounds() {
        says(21, "the fewest CROSSINGS by which a set of THINGS is on a BANK (others anywhere)");
        NumberFerries x = Bounds.told("person 5 0;person 5 1;stone 5 0;beast 9 0;exact 5 0 1 1;exact 10 0 2 1");
        way(x, 0, 0);
        way(x, 0, 1);
        way(x, 1, 0);
        way(x, 2, 1);
        way(x, 13, 0);
        way(x, 1, 1, 1);
        way(x, 3, 1, 1);
        way(x, 4, 1, 256 + 5);
        way(x, 7, 1, 256 + 5);
        way(x, 2, 0, 1, 2);
        way(x, 6, 0, 1, 2);
        // One goes to fetch the other, with the stone; that may stay there.
        way(x, 3, 0, 256 + 5, 256 + 3);
        never(x, 7, 0);
        never(x, 8, 1);
        never(x, 15, 1);
        NumberFerries nothing = new NumberFerries();
        way(nothing, 0, 0);
        way(nothing, 0, 1);
        never(Bounds.told("person 5 0"), 1, 1);
        never(Bounds.told("person 5 0;exact 5 1 1 1"), 1, 1);
        never(Bounds.told("child 5 0;exact 5 0 1 1"), 1, 1);
        never(Bounds.told("person 5 0;exact 6 0 1 1"), 1, 1);
        never(Bounds.told("person 5 0;stone 1 0;exact 6 0 1 1"), 1, 1);
        way(Bounds.told("person 5 0;exact 6 0 1 1"), 1, 0);
        way(Bounds.told("person 1 1;person 1 1;person 1 1;person 1 1;person 1 1;person 1 1;person 1 1;person 1 1",
            "exact 8 1 8 1"), 255, 0, 255);
    }

    private static void fewestFirst() {
        says(21, "of several rows the first (by the FERRY, then the LOAD, CROSSING by CROSSING)");
        // The ferry goes before the load.
        way(Bounds.told("person 5 0;person 6 0;exact 6 0 1 1;exact 5 0 1 1"), 3, 1, 2, 256 + 1);
        way(Bounds.told("person 5 0;stone 1 0;exact 6 0 2 1;exact 5 0 1 1"), 1, 1, 3);
        // Of one ferry the least load.
        way(Bounds.told("stone 5 0;person 5 0;person 5 0;exact 10 0 2 1"), 1, 1, 3);
        way(Bounds.told("person 5 0;person 5 0;exact 5 0 1 1"), 2, 1, 2);
        // The first crossing decides before the second: not 2 and then 256 + 1.
        NumberFerries x = Bounds.told("person 5 0;person 5 0;exact 5 0 1 1;exact 5 0 1 1;exact 5 0 1 1");
        way(x, 3, 1, 1, 256 + 2);
        way(x, 1, 1, 1);
        // There, back and there again; of the stones the first goes first.
        way(Bounds.told("person 5 0;stone 2 0;stone 2 0;exact 7 0 2 1;loose 6 1 2 4"), 7, 1, 3, 256 + 1, 256 + 5);
        // A ferry that comes later takes what the earlier one cannot, the third too.
        way(Bounds.told("person 5 0;exact 4 0 1 1;exact 6 0 1 1;exact 5 0 1 1"), 1, 1, 512 + 1);
        way(Bounds.told("stone 1 0;stone 1 0;stone 1 0;stone 1 0;stone 1 0;stone 1 0;stone 1 0;person 9 0",
            "exact 1 0 1 1;exact 16 1 8 1;exact 16 0 8 1"), 255, 1, 512 + 255);
    }

    /** Each crossing told is right in its turn, and what is left of the way is the way from there. */
    private static void walk(NumberFerries asked, NumberFerries walker, int set, int bank, int length) {
        due("fewest(" + set + ", " + bank + ", -1)", asked.fewest(set, bank, -1), length);
        for (int i = 0; i < length; i++) {
            int crossing = asked.fewest(set, bank, i);
            Bounds.must(crossing >= 0, "there is a crossing " + i);
            due("the first from there", walker.fewest(set, bank, 0), crossing);
            due("those that are left", walker.fewest(set, bank, -1), length - i);
            due("cross", walker.cross(crossing / 256, crossing % 256), i + 1);
        }
        due("all are over", walker.fewest(set, bank, -1), 0);
        due("no more", asked.fewest(set, bank, length), NONE);
    }

    private static void fewestLong() {
        says(21, "FEWEST: how many (i NONE; NONE: never), the i-th: 256 times the FERRY, and the LOAD;"
            + " NONE: there are not so many.");
        String ferries = "exact 10 0 2 3;loose 8 1 3 1";
        walk(Bounds.told(LONG_WAY + ferries), Bounds.told(LONG_WAY + ferries), 31, 1, 19);
        NumberFerries x = Bounds.told(LONG_WAY + ferries);
        due("fewest: the last", x.fewest(31, 1, 18) >= 0 ? 1 : 0, 1);
        due("fewest: behind the last", x.fewest(31, 1, 19), NONE);
        due("fewest(31, 1, HIGH)", x.fewest(31, 1, HIGH), NONE);
        due("fewest: another question between", x.fewest(3, 1, 0), 3);
        due("fewest: the same again", x.fewest(31, 1, -1), 19);
    }

    private static void fewestFromNow() {
        says(21, "FORETOLD from now, HATS and time of day as they are (nothing changes).");
        NumberFerries hat = Bounds.told("person 5 0;hat 0 1;exact 5 0 1 1");
        never(hat, 1, 1);
        hat.doff(0);
        way(hat, 1, 1, 1);
        hat.cross(0, 1);
        way(hat, 1, 1);
        way(hat, 1, 0, 1);
        hat.doff(0);
        never(hat, 1, 0);
        NumberFerries turn = Bounds.told("person 21 0;turning 12 0 1 1;exact 20 0 1 1");
        never(turn, 1, 1);
        turn.noon();
        way(turn, 1, 1, 1);
        turn.noon();
        never(turn, 1, 1);
        Bounds.onlyTells(Bounds::day, "fewest(17, 0, -1)", x -> x.fewest(17, 0, -1), 2);
        Bounds.onlyTells(Bounds::day, "fewest(17, 0, 1)", x -> x.fewest(17, 0, 1), 256 + 16);
        Bounds.onlyTells(Bounds::day, "fewest(2, 1, -1)", x -> x.fewest(2, 1, -1), 3);
        Bounds.onlyTells(Bounds::day, "fewest(2, 1, 2)", x -> x.fewest(2, 1, 2), 26);
    }

    private static void fewestRefused() {
        says(21, "UNKNOWN; OUTSIDE: i below NONE.");
        for (int set : Bounds.NO_SET) {
            for (int i : new int[] {-1, 0, -2}) {
                Bounds.refused(Bounds::day, "fewest(" + set + ", 1, " + i + ")", x -> x.fewest(set, 1, i), UNKNOWN);
            }
        }
        for (int bank : Bounds.NO_BANK) {
            for (int i : new int[] {-1, 0, -2}) {
                Bounds.refused(Bounds::day, "fewest(5, " + bank + ", " + i + ")", x -> x.fewest(5, bank, i), UNKNOWN);
                Bounds.refused(NumberFerries::new, "fewest(0, " + bank + ", " + i + ")", x -> x.fewest(0, bank, i), UNKNOWN);
            }
        }
        for (int i : new int[] {-2, -3, -256, LOW + 1, LOW}) {
            Bounds.refused(Bounds::day, "fewest(5, 0, " + i + ")", x -> x.fewest(5, 0, i), OUTSIDE);
            Bounds.refused(Bounds::day, "fewest(31, 1, " + i + ")", x -> x.fewest(31, 1, i), OUTSIDE);
            Bounds.refused(NumberFerries::new, "fewest(0, 0, " + i + ")", x -> x.fewest(0, 0, i), OUTSIDE);
        }
        due("fewest(1, 0, -1) of none", new NumberFerries().fewest(1, 0, -1), UNKNOWN);
    }

    // ---- 22, soonest

    private static void soonestBounds() {
        says(22, "SOONEST: the fewest MINUTES, one CROSSING behind the other; none.");
        NumberFerries x = Bounds.told("person 5 0;person 5 0;stone 9 0;exact 10 0 2 9;exact 5 0 1 4;exact 5 0 1 3");
        due("soonest(0, 0)", x.soonest(0, 0), 0);
        due("soonest(0, 1)", x.soonest(0, 1), 0);
        due("soonest(7, 0)", x.soonest(7, 0), 0);
        due("soonest(1, 1): the shorter one", x.soonest(1, 1), 3);
        due("soonest(2, 1)", x.soonest(2, 1), 3);
        due("soonest(3, 1): two, one behind the other, not the long one", x.soonest(3, 1), 7);
        due("fewest(3, 1, -1): that is not the fewest", x.fewest(3, 1, -1), 1);
        due("soonest(4, 1): never", x.soonest(4, 1), NONE);
        due("soonest(7, 1): never", x.soonest(7, 1), NONE);
        String two = "person 5 0;person 5 0;exact 10 0 2 ";
        due("soonest: 8 before 5 and 4", Bounds.told(two + "8;exact 5 0 1 5;exact 5 0 1 4").soonest(3, 1), 8);
        due("soonest: 9 as well as 5 and 4", Bounds.told(two + "9;exact 5 0 1 5;exact 5 0 1 4").soonest(3, 1), 9);
        due("soonest: 9 behind 4 and 4", Bounds.told(two + "9;exact 5 0 1 4;exact 5 0 1 4").soonest(3, 1), 8);
        due("soonest: 1 and 1", Bounds.told(two + "9;exact 5 0 1 1;exact 5 0 1 1").soonest(3, 1), 2);
        due("soonest: the longest", Bounds.told(two + "9").soonest(3, 1), 9);
        due("soonest: the shortest", Bounds.told(two + "1").soonest(3, 1), 1);
        due("soonest: all of the long way by 1", Bounds.told(LONG_WAY + "exact 10 0 2 1;loose 8 1 3 1").soonest(31, 1), 19);
        due("soonest: all of the long way by 9", Bounds.told(LONG_WAY + "exact 10 0 2 9;loose 8 1 3 9").soonest(31, 1), 171);
        due("soonest of nothing", new NumberFerries().soonest(0, 1), 0);
        due("soonest: no ferry", Bounds.told("person 5 0").soonest(1, 1), NONE);
        due("soonest: the ferry is over there", Bounds.told("person 5 0;exact 5 1 1 1").soonest(1, 1), NONE);
        NumberFerries turn = Bounds.told("person 21 0;hat 0 1;turning 12 0 1 2;exact 22 0 1 7");
        due("soonest: in the morning, with the hat", turn.soonest(1, 1), 7);
        turn.noon();
        due("soonest: in the afternoon, with the hat", turn.soonest(1, 1), 7);
        turn.doff(0);
        due("soonest: in the afternoon, without it", turn.soonest(1, 1), 2);
        turn.cross(0, 1);
        due("soonest: over there", turn.soonest(1, 1), 0);
        due("soonest: and back", turn.soonest(1, 0), 2);
    }

    private static void soonestRefused() {
        says(22, "SOONEST: MINUTES; NONE. UNKNOWN.");
        for (int set : Bounds.NO_SET) {
            Bounds.refused(Bounds::day, "soonest(" + set + ", 1)", x -> x.soonest(set, 1), UNKNOWN);
        }
        for (int bank : Bounds.NO_BANK) {
            Bounds.refused(Bounds::day, "soonest(5, " + bank + ")", x -> x.soonest(5, bank), UNKNOWN);
            Bounds.refused(NumberFerries::new, "soonest(0, " + bank + ")", x -> x.soonest(0, bank), UNKNOWN);
        }
        Bounds.onlyTells(Bounds::day, "soonest(17, 0)", x -> x.soonest(17, 0), 3);
        Bounds.onlyTells(Bounds::day, "soonest(8, 1)", x -> x.soonest(8, 1), 5);
        due("soonest(1, 0) of none", new NumberFerries().soonest(1, 0), UNKNOWN);
    }

    // ---- 23, row

    /** A day with twelve in the row, all right. */
    private static NumberFerries fullRow() {
        NumberFerries x = Bounds.day();
        for (int i = 4; i <= 12; i++) x.row(1, 16);
        Bounds.must(x.count(6) == 12 && x.judge() == NONE, "twelve are told");
        return x;
    }

    private static void rowBounds() {
        says(23, "THE ROW, 12 at most");
        NumberFerries x = Bounds.told("person 5 0;exact 5 0 1 1");
        for (int i = 1; i <= 12; i++) due("row(0, 1)", x.row(0, 1), i);
        due("row(0, 1): the thirteenth", x.row(0, 1), FULL);
        due("count(6)", x.count(6), 12);
        due("judge()", x.judge(), NONE);
        due("burn()", x.burn(), 12);
        for (int i = 1; i <= 12; i++) due("row(0, 1) again", x.row(0, 1), i);
        due("row(0, 1) again", x.row(0, 1), FULL);
        says(23, "A CROSSING behind THE ROW: how many.");
        NumberFerries any = Bounds.day();
        due("row(2, 31): what is not right can be told too", any.row(2, 31), 4);
        due("row(0, 0): nobody too", any.row(0, 0), 5);
        due("count(6)", any.count(6), 5);
        due("count(4): no crossing is made", any.count(4), 1);
        due("count(2)", any.count(2), 21);
        due("count(3)", any.count(3), 3);
        due("judge(): it is behind", any.judge(), 3);
    }

    private static void rowRefused() {
        says(23, "how many. UNKNOWN; FULL.");
        for (int f : Bounds.NO_FERRY) {
            Bounds.refused(Bounds::day, "row(" + f + ", 5)", x -> x.row(f, 5), UNKNOWN);
            Bounds.refused(BoundsOfRowsTest::fullRow, "row(" + f + ", 5)", x -> x.row(f, 5), UNKNOWN);
        }
        for (int load : Bounds.NO_SET) {
            Bounds.refused(Bounds::day, "row(0, " + load + ")", x -> x.row(0, load), UNKNOWN);
            Bounds.refused(BoundsOfRowsTest::fullRow, "row(0, " + load + ")", x -> x.row(0, load), UNKNOWN);
        }
        for (int f = 0; f < 3; f++) {
            int one = f;
            Bounds.refused(BoundsOfRowsTest::fullRow, "row(" + f + ", 0)", x -> x.row(one, 0), FULL);
            Bounds.refused(BoundsOfRowsTest::fullRow, "row(" + f + ", 31)", x -> x.row(one, 31), FULL);
        }
        due("row(0, 0) of none", new NumberFerries().row(0, 0), UNKNOWN);
    }

    // ---- 24, burn

    private static void burnBounds() {
        says(24, "THE ROW is empty: how many it had.");
        due("burn() of none", new NumberFerries().burn(), 0);
        NumberFerries x = Bounds.day();
        due("burn()", x.burn(), 3);
        due("burn() again", x.burn(), 0);
        due("count(6)", x.count(6), 0);
        due("judge()", x.judge(), NONE);
        due("row(2, 0)", x.row(2, 0), 1);
        due("judge(): nothing is left of what was burnt", x.judge(), 0);
        due("burn() of twelve", fullRow().burn(), 12);
        due("count(7): THE TEXT stays", x.count(7), 15);
        due("back(0): what is kept stays", x.back(0), 0);
    }

    // ---- 25, judge

    private static void judgeBounds() {
        says(25, "JUDGED: the first that is not RIGHT.");
        for (int bad = 0; bad <= 12; bad++) {
            NumberFerries x = Bounds.told("person 5 0;person 5 0;exact 5 0 1 1;exact 5 1 1 1");
            for (int i = 0; i < 12; i++) x.row(0, i == bad ? 3 : 1);
            due("judge() of a bad one at " + bad, x.judge(), bad == 12 ? NONE : bad);
        }
        NumberFerries two = Bounds.told("person 5 0;exact 5 0 1 1;exact 6 0 1 1");
        two.row(0, 1);
        two.row(1, 1);
        two.row(1, 1);
        due("judge(): of two the first", two.judge(), 1);
        NumberFerries none = Bounds.told("person 5 0;exact 5 0 1 1");
        none.row(0, 0);
        due("judge(): nobody aboard", none.judge(), 0);
        says(25, "JUDGED: which (from 0); NONE: all are RIGHT.");
        due("judge() of none", new NumberFerries().judge(), NONE);
        due("judge() of an empty row", Bounds.told("person 5 0;exact 5 0 1 1").judge(), NONE);
        due("judge() of twelve", fullRow().judge(), NONE);
        Bounds.onlyTells(BoundsOfRowsTest::fullRow, "judge()", NumberFerries::judge, NONE);
        Bounds.onlyTells(() -> wrongAt(0), "judge()", NumberFerries::judge, 0);
        Bounds.onlyTells(() -> wrongAt(3), "judge()", NumberFerries::judge, 3);
        Bounds.onlyTells(() -> wrongAt(11), "judge()", NumberFerries::judge, 11);
    }

    private static NumberFerries wrongAt(int place) {
        NumberFerries x = Bounds.day();
        x.burn();
        for (int i = 0; i < place; i++) x.row(0, 5);
        x.row(2, 5);
        return x;
    }

    private static void judgeFromNow() {
        says(25, "a FERRY and a LOAD, CROSSING by CROSSING from now on");
        NumberFerries x = Bounds.told("person 5 0;person 5 0;stone 5 0;exact 10 0 2 1;exact 5 1 1 1;turning 50 0 1 1");
        x.row(0, 3);
        x.row(1, 1);
        x.row(0, 3);
        due("judge(): one of them went back", x.judge(), 2);
        x.burn();
        x.row(0, 3);
        x.row(1, 1);
        x.row(1, 1);
        x.row(0, 3);
        x.row(0, 5);
        due("judge(): each is where the last left it", x.judge(), NONE);
        due("cross(0, 5)", x.cross(0, 5), 1);
        due("judge(): from now on", x.judge(), 0);
        due("cross(0, 5)", x.cross(0, 5), 2);
        due("judge()", x.judge(), NONE);
        x.burn();
        x.row(2, 1);
        due("judge(): in the morning", x.judge(), 0);
        x.noon();
        due("judge(): in the afternoon", x.judge(), NONE);
        NumberFerries hat = Bounds.told("person 5 0;hat 0 1;exact 5 0 1 1");
        hat.row(0, 1);
        due("judge(): with the hat", hat.judge(), 0);
        hat.doff(0);
        due("judge(): without it", hat.judge(), NONE);
    }

    // ---- 26, count

    private static void countBounds() {
        says(26, "0 THINGS, 1 FERRIES, 2 those on BANK 1, by bits, 3 FERRIES there, by bits, 4 CROSSINGS,"
            + " 5 1 AFTERNOON, 0, 6 THE ROW, 7 bytes of THE TEXT.");
        int[] fresh = {0, 0, 0, 0, 0, 0, 0, 0};
        int[] day = {5, 3, 21, 3, 1, 1, 3, 15};
        for (int what = 0; what < 8; what++) {
            int one = what;
            Bounds.onlyTells(NumberFerries::new, "count(" + what + ")", x -> x.count(one), fresh[what]);
            Bounds.onlyTells(Bounds::day, "count(" + what + ")", x -> x.count(one), day[what]);
        }
        NumberFerries most = Bounds.told("person 1 1;person 1 1;person 1 1;person 1 1;person 1 1;person 1 1;person 1 1;person 1 1",
            "exact 1 1 1 1;exact 8 1 8 1;exact 9 1 1 1");
        due("count(0)", most.count(0), 8);
        due("count(1)", most.count(1), 3);
        due("count(2): all", most.count(2), 255);
        due("count(3): all", most.count(3), 7);
        most.cross(1, 255);
        due("count(2): none", most.count(2), 0);
        due("count(3): all but one", most.count(3), 5);
        for (int i = 0; i < 12; i++) most.row(0, 1);
        for (int i = 0; i < 25; i++) most.write(0, 8);
        due("count(6): twelve", most.count(6), 12);
        due("count(7): 200", most.count(7), 200);
    }

    private static void countRefused() {
        says(26, "7 bytes of THE TEXT. OUTSIDE.");
        for (int what : new int[] {-1, 8, 9, 32, 33, 256, LOW, LOW + 1, HIGH}) {
            Bounds.refused(Bounds::day, "count(" + what + ")", x -> x.count(what), OUTSIDE);
            Bounds.refused(NumberFerries::new, "count(" + what + ")", x -> x.count(what), OUTSIDE);
        }
    }

    // ---- of all calls

    private static void refusedInOrder() {
        says(23, "OUTSIDE (another number is not as told), NOT (not now: as told), FULL: the first of these that fits.");
        Bounds.refused(BoundsOfRowsTest::fullRow, "row: UNKNOWN before FULL", x -> x.row(3, 0), UNKNOWN);
        Bounds.refused(Bounds::day, "cross: UNKNOWN before NOT", x -> x.cross(3, 0), UNKNOWN);
        Bounds.refused(Bounds::day, "as: UNKNOWN before OUTSIDE", x -> x.as(5, 6), UNKNOWN);
        Bounds.refused(Bounds::day, "as: OUTSIDE before NOT", x -> x.as(3, 6), OUTSIDE);
        Bounds.refused(Bounds::day, "fewest: UNKNOWN before OUTSIDE", x -> x.fewest(5, 2, -2), UNKNOWN);
        Bounds.refused(Bounds::day, "hats: OUTSIDE before NONE", x -> x.hats(0, 0, 2), OUTSIDE);
        Bounds.refused(BoundsOfRowsTest::fullText, "write: OUTSIDE before FULL", x -> x.write(0, 9), OUTSIDE);
        Bounds.refused(BoundsOfRowsTest::fullText, "write: FULL", x -> x.write(0, 1), FULL);
        Bounds.refused(NumberFerries::new, "back: UNKNOWN before NOT", x -> x.back(2), UNKNOWN);
        Bounds.refused(NumberFerries::new, "back: NOT", x -> x.back(1), NOT);
    }

    private static NumberFerries fullText() {
        NumberFerries x = Bounds.day();
        x.erase();
        for (int i = 0; i < 24; i++) x.write(0x2020202020202020L, 8);
        Bounds.put(x, "   shore");
        return x;
    }

    private static void lastCall() {
        says(26, "An object is used for at most 512 calls after it has been made");
        NumberFerries x = new NumberFerries();
        for (int i = 1; i <= 511; i++) {
            int got = i % 2 == 1 ? x.noon() : x.count(5);
            int want = 1 - (i - 1) / 2 % 2;
            if (got != want) due("call " + i, got, want);
        }
        due("count(5): the 512th", x.count(5), 0);
    }
}
