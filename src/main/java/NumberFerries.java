import java.util.Arrays;

/**
 * Ferries that put off only when all aboard weigh just their number.
 * ../shared/DOC.md says what each call answers; capital words here are its terms.
 */
public final class NumberFerries {
    public static final int NONE = -1, UNKNOWN = -2, OUTSIDE = -3, NOT = -4, FULL = -5;

    private static final int MOST_THINGS = 8;
    private static final int MOST_FERRIES = 3;
    private static final int MOST_BYTES = 200;
    private static final int MOST_LINES = 12;
    private static final int MOST_DIGITS = 3;
    private static final int MOST_NUMBERS = 4;
    private static final int MOST_IN_ROW = 12;
    private static final int MOST_KEPT = 2;
    private static final int MOST_POUNDS = 999;
    private static final int MOST_STONE = 99;

    private static final int PERSON = 0;
    private static final int CHILD = 1;
    private static final int BEAST = 2;
    private static final int STONE = 3;
    private static final int EXACT = 0;
    private static final int LOOSE = 1;
    private static final int TURNING = 2;

    /** Where all stand is one number: a bit for each THING, those of the FERRIES above them. */
    private static final int SETS = 1 << MOST_THINGS;
    private static final int ALL_BANKS = SETS << MOST_FERRIES;

    private final Text text = new Text();
    private final River river = new River();
    private final Reader reader = new Reader(text, river);
    private final Survey survey = new Survey(river);
    private final Search search = new Search(river);
    private final Stand[] kept = new Stand[MOST_KEPT];
    private final int[] told = new int[MOST_IN_ROW];
    private int toldCount = 0;

    public NumberFerries() {
        for (int k = 0; k < MOST_KEPT; k++) {
            kept[k] = new Stand();
        }
    }

    // ---- what is told

    public int write(long bytes, int n) {
        if (n < 1 || n > 8) {
            return OUTSIDE;
        }
        if (text.length + n > MOST_BYTES) {
            return FULL;
        }
        for (int i = 0; i < n; i++) {
            text.add((int) (bytes >> 8 * i & 255));
        }
        return text.length;
    }

    public int erase() {
        return text.empty();
    }

    public int fault() {
        reader.read();
        return reader.fault;
    }

    public int shore() {
        reader.read();
        if (reader.fault != NONE) {
            return NOT;
        }
        for (int i = 0; i < reader.lineCount && i < MOST_LINES; i++) {
            river.carryOut(reader.lines[i]);
        }
        river.beginDay();
        toldCount = 0;
        for (int k = 0; k < MOST_KEPT; k++) {
            kept[k].made = false;
        }
        text.empty();
        return reader.lineCount;
    }

    public int thing(int thing, int what) {
        if (!river.hasThing(thing)) {
            return UNKNOWN;
        }
        Thing one = river.things[thing];
        switch (what) {
            case 0: return one.kind;
            case 1: return one.weight;
            case 2: return river.now.banks >> thing & 1;
            case 3: return one.hat;
            case 4: return river.hatIsOn(thing) ? 1 : 0;
            case 5: return one.wish;
            case 6: return one.unsure ? 1 : 0;
            case 7: return river.poundsOf(1 << thing);
            default: return OUTSIDE;
        }
    }

    public int ferry(int ferry, int what) {
        if (!river.hasFerry(ferry)) {
            return UNKNOWN;
        }
        Ferry one = river.ferries[ferry];
        switch (what) {
            case 0: return one.kind;
            case 1: return one.numberNow(river.now.afternoon);
            case 2: return bankOf(ferry, river.now.banks);
            case 3: return one.room;
            case 4: return one.minutes;
            default: return OUTSIDE;
        }
    }

    public int as(int thing, int kind) {
        if (!river.hasThing(thing)) {
            return UNKNOWN;
        }
        if (kind < 0 || kind >= Thing.OVER.length) {
            return OUTSIDE;
        }
        return river.things[thing].isUnder(kind) ? river.poundsOf(1 << thing) : NOT;
    }

    // ---- crossings

    public int right(int ferry, int load) {
        if (!river.hasFerry(ferry) || !river.hasAll(load)) {
            return UNKNOWN;
        }
        return river.isRight(ferry, load, river.now.banks) ? 1 : 0;
    }

    public int cross(int ferry, int load) {
        if (!river.hasFerry(ferry) || !river.hasAll(load)) {
            return UNKNOWN;
        }
        Stand now = river.now;
        if (!river.isRight(ferry, load, now.banks)) {
            return NOT;
        }
        now.banks = banksBehind(now.banks, crossingOf(ferry, load));
        now.crossings++;
        return now.crossings;
    }

    public int doff(int thing) {
        if (!river.hasThing(thing)) {
            return UNKNOWN;
        }
        if (!river.things[thing].hasHat()) {
            return NOT;
        }
        river.turnHat(thing);
        return river.poundsOf(1 << thing);
    }

    public int noon() {
        river.now.afternoon = !river.now.afternoon;
        return river.now.afternoon ? 1 : 0;
    }

    public int keep(int k) {
        if (k < 0 || k >= MOST_KEPT) {
            return UNKNOWN;
        }
        kept[k].become(river.now);
        kept[k].made = true;
        return river.now.crossings;
    }

    public int back(int k) {
        if (k < 0 || k >= MOST_KEPT) {
            return UNKNOWN;
        }
        if (!kept[k].made) {
            return NOT;
        }
        river.bringBack(kept[k]);
        return river.now.crossings;
    }

    // ---- loads

    public int loads(int ferry, int what) {
        if (!river.hasFerry(ferry)) {
            return UNKNOWN;
        }
        if (what < 0 || what > 3) {
            return OUTSIDE;
        }
        survey.make(ferry, 0, 0);
        switch (what) {
            case 0: return survey.howMany;
            case 1: return survey.least;
            case 2: return survey.mostWished;
            default: return survey.mostWishes;
        }
    }

    public int weighed(int bank, int p) {
        if (!isBank(bank)) {
            return UNKNOWN;
        }
        if (p < 1 || p > MOST_POUNDS) {
            return OUTSIDE;
        }
        int howMany = 0;
        for (int load = 1; load < 1 << river.thingCount; load++) {
            if (allOn(bank, load, river.now.banks) && river.poundsOf(load) == p) {
                howMany++;
            }
        }
        return howMany;
    }

    public int hats(int ferry, int load, int what) {
        if (!river.hasFerry(ferry) || !river.hasAll(load)) {
            return UNKNOWN;
        }
        if (what < 0 || what > 1) {
            return OUTSIDE;
        }
        int off = river.fewestHatsOff(ferry, load);
        if (off == NONE || what == 1) {
            return off;
        }
        return Integer.bitCount(off);
    }

    public int stones(int ferry, int load, int w) {
        if (!river.hasFerry(ferry) || !river.hasAll(load)) {
            return UNKNOWN;
        }
        if (w < 1 || w > MOST_STONE) {
            return OUTSIDE;
        }
        return river.fewestStones(ferry, load, w);
    }

    public int sure(int ferry) {
        if (!river.hasFerry(ferry)) {
            return UNKNOWN;
        }
        survey.make(ferry, 0, 0);
        return survey.howManySure;
    }

    public int aboard(int ferry, int in, int out, int what) {
        if (!river.hasFerry(ferry) || !river.hasAll(in) || !river.hasAll(out)) {
            return UNKNOWN;
        }
        if (what < 0 || what > 2) {
            return OUTSIDE;
        }
        survey.make(ferry, in, out);
        switch (what) {
            case 0: return survey.howMany;
            case 1: return survey.inAny;
            default: return survey.inAll;
        }
    }

    // ---- rows of crossings

    public int fewest(int set, int bank, int i) {
        if (!river.hasAll(set) || !isBank(bank)) {
            return UNKNOWN;
        }
        if (i < NONE) {
            return OUTSIDE;
        }
        int goal = search.find(set, bank, false);
        return i == NONE ? search.costOf(goal) : search.crossingTo(goal, i);
    }

    public int soonest(int set, int bank) {
        if (!river.hasAll(set) || !isBank(bank)) {
            return UNKNOWN;
        }
        return search.costOf(search.find(set, bank, true));
    }

    public int row(int ferry, int load) {
        if (!river.hasFerry(ferry) || !river.hasAll(load)) {
            return UNKNOWN;
        }
        if (toldCount >= MOST_IN_ROW) {
            return FULL;
        }
        told[toldCount] = crossingOf(ferry, load);
        toldCount++;
        return toldCount;
    }

    public int burn() {
        int had = toldCount;
        toldCount = 0;
        return had;
    }

    public int judge() {
        int banks = river.now.banks;
        for (int i = 0; i < toldCount && i < MOST_IN_ROW; i++) {
            if (!river.isRight(ferryOf(told[i]), loadOf(told[i]), banks)) {
                return i;
            }
            banks = banksBehind(banks, told[i]);
        }
        return NONE;
    }

    public int count(int what) {
        switch (what) {
            case 0: return river.thingCount;
            case 1: return river.ferryCount;
            case 2: return river.now.banks % SETS;
            case 3: return river.now.banks / SETS;
            case 4: return river.now.crossings;
            case 5: return river.now.afternoon ? 1 : 0;
            case 6: return toldCount;
            case 7: return text.length;
            default: return OUTSIDE;
        }
    }

    // ---- banks and crossings as numbers

    private static boolean isBank(int bank) {
        return bank == 0 || bank == 1;
    }

    private static int bankOf(int ferry, int banks) {
        return banks / SETS >> ferry & 1;
    }

    private static boolean allOn(int bank, int set, int banks) {
        return (set & banks) == (bank == 1 ? set : 0);
    }

    private static int crossingOf(int ferry, int load) {
        return SETS * ferry + load;
    }

    private static int ferryOf(int crossing) {
        return crossing / SETS;
    }

    private static int loadOf(int crossing) {
        return crossing % SETS;
    }

    /** The same CROSSING leads there and back again, so this also finds the banks ahead of it. */
    private static int banksBehind(int banks, int crossing) {
        return banks ^ loadOf(crossing) ^ SETS << ferryOf(crossing);
    }

    /** What was told of a THING; what changes in a day is in Stand. */
    private static final class Thing {
        /** Of THING, BODY, PERSON, CHILD, BEAST, STONE: the one that is over it. */
        private static final int[] OVER = {NONE, 0, 1, 2, 1, 0};
        /** Where a thing's own KIND (0 .. 3) stands among these. */
        private static final int OWN_KIND = 2;

        int kind;
        int weight;
        int bank;
        int hat;
        int wish;
        boolean unsure;

        void tell(int itsKind, int itsWeight, int itsBank) {
            kind = itsKind;
            weight = itsWeight;
            bank = itsBank;
            hat = 0;
            wish = 0;
            unsure = false;
        }

        boolean hasHat() {
            return isHatted(kind);
        }

        static boolean isHatted(int itsKind) {
            return itsKind == PERSON || itsKind == CHILD;
        }

        boolean isUnder(int wanted) {
            int at = OWN_KIND + kind;
            for (int up = 0; up < OVER.length && at >= 0 && at < OVER.length; up++) {
                if (at == wanted) {
                    return true;
                }
                at = OVER[at];
            }
            return false;
        }
    }

    /** What was told of a FERRY. */
    private static final class Ferry {
        int kind;
        int number;
        int bank;
        int room;
        int minutes;

        void tell(int itsKind, int itsNumber, int itsBank, int itsRoom, int itsMinutes) {
            kind = itsKind;
            number = itsNumber;
            bank = itsBank;
            room = itsRoom;
            minutes = itsMinutes;
        }

        int numberNow(boolean afternoon) {
            if (kind != TURNING || !afternoon) {
                return number;
            }
            int turned = 0;
            int rest = number;
            for (int digit = 0; digit < MOST_DIGITS && rest > 0; digit++) {
                turned = turned * 10 + rest % 10;
                rest /= 10;
            }
            return turned;
        }

        /** By how much POUNDS may miss THE NUMBER. */
        int play() {
            return kind == LOOSE ? 1 : 0;
        }
    }

    /** All that changes in a day, so that it can be kept and brought back whole. */
    private static final class Stand {
        /** Whether there is something kept here. */
        boolean made = false;
        int banks = 0;
        int hatsOff = 0;
        boolean afternoon = false;
        int crossings = 0;

        void become(Stand other) {
            banks = other.banks;
            hatsOff = other.hatsOff;
            afternoon = other.afternoon;
            crossings = other.crossings;
        }
    }

    /** The THINGS and FERRIES, and how they stand now. */
    private static final class River {
        final Thing[] things = new Thing[MOST_THINGS];
        final Ferry[] ferries = new Ferry[MOST_FERRIES];
        final Stand now = new Stand();
        int thingCount = 0;
        int ferryCount = 0;
        /** Sets of THINGS by what was told of them. */
        int persons = 0;
        int withHats = 0;
        int unsure = 0;
        /** By LOAD; weighed when a HAT may have changed, not when asked: that is far more often. */
        private final int[] poundsBy = new int[SETS];

        River() {
            for (int t = 0; t < MOST_THINGS; t++) {
                things[t] = new Thing();
            }
            for (int f = 0; f < MOST_FERRIES; f++) {
                ferries[f] = new Ferry();
            }
        }

        boolean hasThing(int thing) {
            return thing >= 0 && thing < thingCount;
        }

        boolean hasFerry(int ferry) {
            return ferry >= 0 && ferry < ferryCount;
        }

        boolean hasAll(int set) {
            return set >= 0 && set < 1 << thingCount;
        }

        void carryOut(Line line) {
            int[] numbers = line.numbers;
            Word word = line.word;
            if (word == Word.SHORE) {
                thingCount = 0;
                ferryCount = 0;
            } else if (word.thingKind != NONE) {
                addThing(word.thingKind, numbers);
            } else if (word.ferryKind != NONE) {
                addFerry(word.ferryKind, numbers);
            } else if (hasThing(numbers[0])) {
                change(things[numbers[0]], word, numbers[1]);
            }
        }

        private void addThing(int kind, int[] numbers) {
            if (thingCount < MOST_THINGS) {
                things[thingCount].tell(kind, numbers[0], numbers[1]);
                thingCount++;
            }
        }

        private void addFerry(int kind, int[] numbers) {
            if (ferryCount < MOST_FERRIES) {
                ferries[ferryCount].tell(kind, numbers[0], numbers[1], numbers[2], numbers[3]);
                ferryCount++;
            }
        }

        private static void change(Thing thing, Word word, int value) {
            if (word == Word.HAT) {
                thing.hat = value;
            } else if (word == Word.WISH) {
                thing.wish = value;
            } else if (word == Word.UNSURE) {
                thing.unsure = true;
            }
        }

        void beginDay() {
            now.banks = 0;
            persons = 0;
            withHats = 0;
            unsure = 0;
            for (int t = 0; t < thingCount; t++) {
                Thing thing = things[t];
                now.banks |= thing.bank << t;
                persons |= thing.kind == PERSON ? 1 << t : 0;
                withHats |= thing.hasHat() ? 1 << t : 0;
                unsure |= thing.unsure ? 1 << t : 0;
            }
            for (int f = 0; f < ferryCount; f++) {
                now.banks |= SETS * ferries[f].bank << f;
            }
            now.hatsOff = 0;
            now.afternoon = false;
            now.crossings = 0;
            weighAll();
        }

        boolean hatIsOn(int thing) {
            return ((withHats & ~now.hatsOff) >> thing & 1) == 1;
        }

        void turnHat(int thing) {
            now.hatsOff ^= 1 << thing;
            weighAll();
        }

        void bringBack(Stand stand) {
            now.become(stand);
            weighAll();
        }

        private void weighAll() {
            for (int t = 0; t < thingCount; t++) {
                int one = things[t].weight + (hatIsOn(t) ? things[t].hat : 0);
                for (int lower = 0; lower < 1 << t; lower++) {
                    poundsBy[1 << t | lower] = one + poundsBy[lower];
                }
            }
        }

        int poundsOf(int load) {
            return hasAll(load) ? poundsBy[load] : 0;
        }

        int hatsOfAll(int set) {
            int pounds = 0;
            for (int t = 0; t < thingCount; t++) {
                if ((set >> t & 1) == 1) {
                    pounds += things[t].hat;
                }
            }
            return pounds;
        }

        int wishesOfAll(int load) {
            int wishes = 0;
            for (int t = 0; t < thingCount; t++) {
                if ((load >> t & 1) == 1) {
                    wishes += things[t].wish;
                }
            }
            return wishes;
        }

        private boolean isOnBankOf(int ferry, int load, int banks) {
            return allOn(bankOf(ferry, banks), load, banks);
        }

        private boolean mayGoAboard(int ferry, int load) {
            return Integer.bitCount(load) <= ferries[ferry].room && (load & persons) != 0;
        }

        /** How far POUNDS are from THE NUMBER of a FERRY. */
        private int missBy(int ferry, int pounds) {
            return Math.abs(pounds - ferries[ferry].numberNow(now.afternoon));
        }

        private boolean isNumber(int ferry, int pounds) {
            return missBy(ferry, pounds) <= ferries[ferry].play();
        }

        /** RIGHT wherever the FERRY is, if all of the LOAD are there too. */
        boolean isRightSomewhere(int ferry, int load) {
            return mayGoAboard(ferry, load) && isNumber(ferry, poundsOf(load));
        }

        boolean isRight(int ferry, int load, int banks) {
            return isOnBankOf(ferry, load, banks) && isRightSomewhere(ferry, load);
        }

        /** Each UNSURE one can add its pound to the same side, so all of them count. */
        boolean isSure(int ferry, int load) {
            int unsureAboard = Integer.bitCount(load & unsure);
            return missBy(ferry, poundsOf(load)) + unsureAboard <= ferries[ferry].play();
        }

        /**
         * Whose HATS, or NONE. Whether a HAT is on now is all one; and one that weighs nothing, or
         * is not there, is never among the fewest.
         */
        int fewestHatsOff(int ferry, int load) {
            if (!isOnBankOf(ferry, load, now.banks) || !mayGoAboard(ferry, load)) {
                return NONE;
            }
            int allHatsOn = poundsOf(load) + hatsOfAll(load & now.hatsOff);
            int best = NONE;
            for (int off = 0; off < 1 << thingCount; off++) {
                if ((off & ~load) == 0
                        && isNumber(ferry, allHatsOn - hatsOfAll(off))
                        && (best == NONE || Integer.bitCount(off) < Integer.bitCount(best))) {
                    best = off;
                }
            }
            return best;
        }

        int fewestStones(int ferry, int load, int w) {
            if (!isOnBankOf(ferry, load, now.banks) || !mayGoAboard(ferry, load)) {
                return NONE;
            }
            int without = poundsOf(load);
            int free = ferries[ferry].room - Integer.bitCount(load);
            for (int stones = 0; stones <= free; stones++) {
                if (isNumber(ferry, without + stones * w)) {
                    return stones;
                }
            }
            return NONE;
        }
    }

    /** All LOADS of one FERRY looked through once, for the calls that tell of them all. */
    private static final class Survey {
        private final River river;
        int howMany;
        int howManySure;
        int least;
        int mostWished;
        int mostWishes;
        int inAny;
        int inAll;

        Survey(River itsRiver) {
            river = itsRiver;
        }

        void make(int ferry, int in, int out) {
            howMany = 0;
            howManySure = 0;
            least = NONE;
            mostWished = NONE;
            mostWishes = NONE;
            inAny = NONE;
            inAll = NONE;
            for (int load = 1; load < 1 << river.thingCount; load++) {
                if ((load & in) == in && (load & out) == 0
                        && river.isRight(ferry, load, river.now.banks)) {
                    take(load, river.wishesOfAll(load), river.isSure(ferry, load));
                }
            }
        }

        private void take(int load, int wishes, boolean sure) {
            if (howMany == 0) {
                least = load;
            }
            if (wishes > mostWishes) {
                mostWished = load;
                mostWishes = wishes;
            }
            inAny = howMany == 0 ? load : inAny | load;
            inAll = howMany == 0 ? load : inAll & load;
            howMany++;
            if (sure) {
                howManySure++;
            }
        }
    }

    /**
     * Looks for rows of CROSSINGS from now on, the cheapest banks first. A FERRY always costs the
     * same, so what it leads to comes in order of cost: a queue for each of them is enough.
     */
    private static final class Search {
        /** Far above the dearest way: it comes to each banks once at most. */
        private static final int NEVER = 1 << 20;

        private final River river;
        /** For each FERRY, from SETS times it on: the LOADS that are RIGHT on the BANK where it is. */
        private final int[] fits = new int[MOST_FERRIES * SETS];
        private final int[] fitCount = new int[MOST_FERRIES];
        /** By banks: what it costs to come there, as far as is known. */
        private final int[] cost = new int[ALL_BANKS];
        /** By banks that were come to: the last CROSSING; NONE where it began. */
        private final int[] cameBy = new int[ALL_BANKS];
        /** For each queue, from ALL_BANKS times it on: banks, each once at most. */
        private final int[] waiting = new int[MOST_FERRIES * ALL_BANKS];
        private final int[] head = new int[MOST_FERRIES];
        private final int[] tail = new int[MOST_FERRIES];

        Search(River itsRiver) {
            river = itsRiver;
        }

        /** The banks nearest to now with all of a set on a BANK, by MINUTES or by CROSSINGS; NONE. */
        int find(int set, int bank, boolean byMinutes) {
            clear();
            for (int f = 0; f < river.ferryCount; f++) {
                listFits(f);
            }
            reach(river.now.banks, NONE, 0, 0);
            for (int looks = 0; looks < waiting.length; looks++) {
                int queue = cheapestQueue();
                if (queue == NONE) {
                    return NONE;
                }
                int banks = waiting[head[queue]];
                head[queue]++;
                if (allOn(bank, set, banks)) {
                    return banks;
                }
                for (int f = 0; f < river.ferryCount; f++) {
                    // CROSSINGS all cost the same: in one queue the first row stays the first.
                    spread(banks, f, byMinutes ? f : 0, byMinutes ? river.ferries[f].minutes : 1);
                }
            }
            return NONE;
        }

        int costOf(int goal) {
            return goal == NONE ? NONE : cost[goal];
        }

        /** The i-th CROSSING on the way to a goal that was found by CROSSINGS; NONE. */
        int crossingTo(int goal, int i) {
            if (goal == NONE || i >= cost[goal]) {
                return NONE;
            }
            int at = goal;
            for (int ahead = cost[goal] - 1; ahead > i && cameBy[at] != NONE; ahead--) {
                at = banksBehind(at, cameBy[at]);
            }
            return cameBy[at];
        }

        private void clear() {
            for (int f = 0; f < MOST_FERRIES; f++) {
                fitCount[f] = 0;
                head[f] = f * ALL_BANKS;
                tail[f] = f * ALL_BANKS;
            }
            Arrays.fill(cost, NEVER);
        }

        private void listFits(int ferry) {
            for (int load = 1; load < 1 << river.thingCount; load++) {
                if (river.isRightSomewhere(ferry, load)) {
                    fits[ferry * SETS + fitCount[ferry]] = load;
                    fitCount[ferry]++;
                }
            }
        }

        private int cheapestQueue() {
            int best = NONE;
            int least = NEVER;
            for (int q = 0; q < MOST_FERRIES; q++) {
                if (head[q] < tail[q] && cost[waiting[head[q]]] < least) {
                    best = q;
                    least = cost[waiting[head[q]]];
                }
            }
            return best;
        }

        private void spread(int banks, int ferry, int queue, int price) {
            int bank = bankOf(ferry, banks);
            for (int i = 0; i < fitCount[ferry]; i++) {
                int load = fits[ferry * SETS + i];
                if (allOn(bank, load, banks)) {
                    int crossing = crossingOf(ferry, load);
                    reach(banksBehind(banks, crossing), crossing, cost[banks] + price, queue);
                }
            }
        }

        /** Only what is cheaper waits, and a queue's costs never fall: each banks once in each. */
        private void reach(int banks, int crossing, int price, int queue) {
            if (price < cost[banks] && tail[queue] < (queue + 1) * ALL_BANKS) {
                cost[banks] = price;
                cameBy[banks] = crossing;
                waiting[tail[queue]] = banks;
                tail[queue]++;
            }
        }
    }

    /** THE TEXT as far as it is written. */
    private static final class Text {
        static final int END = -1;

        private final int[] bytes = new int[MOST_BYTES];
        int length = 0;

        void add(int value) {
            if (length < MOST_BYTES) {
                bytes[length] = value;
                length++;
            }
        }

        int empty() {
            int had = length;
            length = 0;
            return had;
        }

        int byteAt(int place) {
            return place >= 0 && place < length ? bytes[place] : END;
        }
    }

    /** The words with which LINES begin; for each number that has to follow a letter (see Reader). */
    private enum Word {
        SHORE("shore", "", NONE, NONE),
        A_PERSON("person", "WB", PERSON, NONE),
        A_CHILD("child", "WB", CHILD, NONE),
        A_BEAST("beast", "WB", BEAST, NONE),
        A_STONE("stone", "WB", STONE, NONE),
        HAT("hat", "HP", NONE, NONE),
        WISH("wish", "TV", NONE, NONE),
        UNSURE("unsure", "T", NONE, NONE),
        AN_EXACT("exact", "NBRM", NONE, EXACT),
        A_LOOSE("loose", "NBRM", NONE, LOOSE),
        A_TURNING("turning", "NBRM", NONE, TURNING);

        final String spelling;
        final String slots;
        /** The KIND of the THING, of the FERRY, that the LINE adds; NONE. */
        final int thingKind;
        final int ferryKind;

        Word(String itsSpelling, String itsSlots, int itsThingKind, int itsFerryKind) {
            spelling = itsSpelling;
            slots = itsSlots;
            thingKind = itsThingKind;
            ferryKind = itsFerryKind;
        }
    }

    /** A LINE that was read. */
    private static final class Line {
        Word word = Word.SHORE;
        final int[] numbers = new int[MOST_NUMBERS];
    }

    /** Reads THE TEXT to its first FAULT, and changes nothing but its own LINES. */
    private static final class Reader {
        private static final Word[] WORDS = Word.values();
        /** WEIGHT, BANK, a hat's POUNDS, a WISH, NUMBER, ROOM, MINUTES; their bounds below. */
        private static final String SLOTS = "WBPVNRM";
        private static final int[] LEAST = {1, 0, 0, 0, 1, 1, 1};
        private static final int[] MOST = {99, 1, 9, 9, 999, 8, 9};
        /** Beside them: a THING; one that has a HAT. */
        private static final char ANY_THING = 'T';
        private static final char ONE_WITH_HAT = 'H';

        private static final int LETTERS = 0;
        private static final int DIGITS = 1;
        private static final int OTHER = 2;
        private static final int NOTHING = 3;
        private static final int BLANK = 32;
        private static final int SEMICOLON = 59;

        final Line[] lines = new Line[MOST_LINES];
        int lineCount = 0;
        int fault = NONE;

        private final Text text;
        private final River river;
        /** The TOKEN: where it begins (the length, if there is none), where the next may, its sort. */
        private int begin;
        private int end;
        private int sort;
        /** What there will be behind the LINES that were read: THINGS, those with HATS, FERRIES. */
        private int things;
        private int withHats;
        private int ferries;

        Reader(Text itsText, River itsRiver) {
            text = itsText;
            river = itsRiver;
            for (int i = 0; i < MOST_LINES; i++) {
                lines[i] = new Line();
            }
        }

        void read() {
            end = 0;
            lineCount = 0;
            fault = NONE;
            things = river.thingCount;
            withHats = river.withHats;
            ferries = river.ferryCount;
            boolean more = true;
            for (int i = 0; i < MOST_LINES && more; i++) {
                more = readLine(lines[i]) && readSemicolon();
            }
        }

        private boolean readLine(Line line) {
            nextToken();
            Word word = findWord();
            if (word == null || isTooMany(word)) {
                return faultHere();
            }
            line.word = word;
            int slots = word.slots.length();
            for (int i = 0; i < slots && i < MOST_NUMBERS; i++) {
                nextToken();
                int value = numberHere();
                if (!canStand(word.slots.charAt(i), value)) {
                    return faultHere();
                }
                line.numbers[i] = value;
            }
            lineCount++;
            foresee(word);
            return true;
        }

        /** Whether another LINE has to follow; behind the last one none can. */
        private boolean readSemicolon() {
            nextToken();
            if (sort == NOTHING) {
                return false;
            }
            if (text.byteAt(begin) != SEMICOLON || lineCount >= MOST_LINES) {
                return faultHere();
            }
            return true;
        }

        private boolean faultHere() {
            fault = begin;
            return false;
        }

        private void nextToken() {
            begin = end;
            while (begin < text.length && text.byteAt(begin) == BLANK) {
                begin++;
            }
            end = begin;
            sort = sortAt(begin);
            if (sort == OTHER) {
                end++;
            } else {
                while (end < text.length && sortAt(end) == sort) {
                    end++;
                }
            }
        }

        private int sortAt(int place) {
            int sign = text.byteAt(place);
            if (sign == Text.END) {
                return NOTHING;
            }
            if (sign >= 'a' && sign <= 'z') {
                return LETTERS;
            }
            return sign >= '0' && sign <= '9' ? DIGITS : OTHER;
        }

        private Word findWord() {
            for (int w = 0; w < WORDS.length; w++) {
                if (isSpelt(WORDS[w].spelling)) {
                    return WORDS[w];
                }
            }
            return null;
        }

        private boolean isSpelt(String spelling) {
            int length = spelling.length();
            if (end - begin != length) {
                return false;
            }
            for (int i = 0; i < length; i++) {
                if (spelling.charAt(i) != text.byteAt(begin + i)) {
                    return false;
                }
            }
            return true;
        }

        private boolean isTooMany(Word word) {
            return word.thingKind != NONE && things >= MOST_THINGS
                    || word.ferryKind != NONE && ferries >= MOST_FERRIES;
        }

        /** The number that the TOKEN is; NONE: it is none, or has too many digits. */
        private int numberHere() {
            if (sort != DIGITS || end - begin > MOST_DIGITS) {
                return NONE;
            }
            int value = 0;
            for (int i = begin; i < end; i++) {
                value = value * 10 + text.byteAt(i) - '0';
            }
            return value;
        }

        private boolean canStand(char slot, int value) {
            if (slot == ANY_THING || slot == ONE_WITH_HAT) {
                return value >= 0 && value < things
                        && (slot == ANY_THING || (withHats >> value & 1) == 1);
            }
            int kind = SLOTS.indexOf(slot);
            return kind >= 0 && kind < LEAST.length && value >= LEAST[kind] && value <= MOST[kind];
        }

        private void foresee(Word word) {
            if (word == Word.SHORE) {
                things = 0;
                withHats = 0;
                ferries = 0;
            } else if (word.thingKind != NONE) {
                withHats |= Thing.isHatted(word.thingKind) ? 1 << things : 0;
                things++;
            } else if (word.ferryKind != NONE) {
                ferries++;
            }
        }
    }
}
