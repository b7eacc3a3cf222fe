/** The boundaries that the document names for what is told: promises 1 to 5. */
public final class BoundsOfTextTest {
    private static final int NONE = Bounds.NONE, UNKNOWN = Bounds.UNKNOWN, OUTSIDE = Bounds.OUTSIDE;
    private static final int NOT = Bounds.NOT, FULL = Bounds.FULL, LOW = Bounds.LOW, HIGH = Bounds.HIGH;
    private static final String EIGHT = "person 1 0;child 2 0;beast 3 0;stone 4 0;"
        + "person 5 1;child 6 1;beast 7 1;stone 8 1";
    private static final String THREE = "exact 1 0 1 1;loose 1 0 1 1;turning 1 0 1 1";

    /** Each number of each line: the text ahead, the line with % for it, its least and its most. */
    private static final String[][] NUMBERS = {
        {"shore", "person % 0", "1", "99"}, {"shore", "person 1 %", "0", "1"},
        {"shore", "child % 0", "1", "99"}, {"shore", "child 1 %", "0", "1"},
        {"shore", "beast % 0", "1", "99"}, {"shore", "beast 1 %", "0", "1"},
        {"shore", "stone % 0", "1", "99"}, {"shore", "stone 1 %", "0", "1"},
        {"person 1 0", "hat % 0", "0", "0"}, {"person 1 0;child 1 0", "hat % 0", "0", "1"},
        {"person 1 0", "hat 0 %", "0", "9"}, {"child 1 0", "hat 0 %", "0", "9"},
        {"stone 1 0", "wish % 0", "0", "0"}, {EIGHT, "wish % 0", "0", "7"}, {"beast 1 0", "wish 0 %", "0", "9"},
        {"stone 1 0", "unsure %", "0", "0"}, {EIGHT, "unsure %", "0", "7"},
        {"shore", "exact % 0 1 1", "1", "999"}, {"shore", "exact 1 % 1 1", "0", "1"},
        {"shore", "exact 1 0 % 1", "1", "8"}, {"shore", "exact 1 0 1 %", "1", "9"},
        {"shore", "loose % 0 1 1", "1", "999"}, {"shore", "loose 1 % 1 1", "0", "1"},
        {"shore", "loose 1 0 % 1", "1", "8"}, {"shore", "loose 1 0 1 %", "1", "9"},
        {"shore", "turning % 0 1 1", "1", "999"}, {"shore", "turning 1 % 1 1", "0", "1"},
        {"shore", "turning 1 0 % 1", "1", "8"}, {"shore", "turning 1 0 1 %", "1", "9"}};

    public static void main(String[] args) {
        newObject();
        writeBounds();
        writeBytes();
        writeFull();
        eraseBounds();
        faultOfLines();
        faultOfWords();
        faultOfNumbers();
        faultOfTooMany();
        faultOfThings();
        faultOfTokens();
        faultPlaces();
        shoreRefused();
        shoreDone();
        shoreAtFirst();
        shoreDay();
        Bounds.end(1, 5);
    }

    private static void says(int promise, String words) {
        Bounds.says(promise, words);
    }

    private static void due(String call, int got, int want) {
        Bounds.due(call, got, want);
    }

    private static NumberFerries with(String text) {
        NumberFerries x = new NumberFerries();
        Bounds.put(x, text);
        return x;
    }

    /** Where the fault of a text is behind another one; shore() must do it, or refuse it, likewise. */
    private static void fault(String ahead, String text, int want) {
        NumberFerries x = ahead.isEmpty() ? new NumberFerries() : Bounds.told(ahead);
        Bounds.put(x, text);
        due("fault() of '" + text + "'", x.fault(), want);
        due("count(7)", x.count(7), text.length());
        int done = x.shore();
        Bounds.must(want == NONE ? done == text.split(";").length : done == NOT, "shore() of '" + text + "'");
    }

    private static void fault(String text, int want) {
        fault("", text, want);
    }

    // ---- 1, a new object

    private static void newObject() {
        says(1, "No THINGS, no FERRIES.");
        NumberFerries x = new NumberFerries();
        due("count(0)", x.count(0), 0);
        due("count(1)", x.count(1), 0);
        due("thing(0, 0)", x.thing(0, 0), UNKNOWN);
        due("ferry(0, 0)", x.ferry(0, 0), UNKNOWN);
        due("the empty set is a set", x.soonest(0, 0), 0);
        due("no thing is in a set", x.soonest(1, 0), UNKNOWN);
        says(1, "8 at most (none at first)");
        due("wish: none is there to be named", with("wish 0 1").fault(), 5);
        due("eight fit, so none was there", Bounds.told(EIGHT).count(0), 8);
        says(1, "FERRIES are 0 .. 2 as they come (none at first)");
        due("three fit, so none was there", Bounds.told(THREE).count(1), 3);
        due("no ferry", new NumberFerries().loads(0, 0), UNKNOWN);
        says(1, "`NumberFerries()`: No THINGS, no FERRIES.");
        NumberFerries day = Bounds.day();
        NumberFerries other = new NumberFerries();
        for (int what = 0; what < 8; what++) due("count(" + what + ") beside another", other.count(what), 0);
        due("nothing is kept beside another", other.back(0), NOT);
        due("the other is as it was", day.count(0), 5);
    }

    // ---- 2, write

    private static void writeBounds() {
        says(2, "n (1 .. 8) bytes more of THE TEXT");
        for (int n : new int[] {0, 9, -1, -8, 10, 16, 32, 33, 257, 65537, LOW, LOW + 1, HIGH}) {
            Bounds.refused(Bounds::day, "write(0, " + n + ")", x -> x.write(0, n), OUTSIDE);
            Bounds.refused(NumberFerries::new, "write(-1, " + n + ")", x -> x.write(-1, n), OUTSIDE);
        }
        for (int n = 1; n <= 8; n++) {
            NumberFerries x = new NumberFerries();
            due("write(0, " + n + ")", x.write(0, n), n);
            due("count(7)", x.count(7), n);
        }
        says(2, "how many it has");
        NumberFerries x = new NumberFerries();
        due("write(0, 8)", x.write(0, 8), 8);
        due("write(0, 1)", x.write(0, 1), 9);
        due("write(0, 7)", x.write(0, 7), 16);
    }

    private static void writeBytes() {
        says(2, "byte i being bytes >> 8 i & 255");
        for (int i = 0; i < 8; i++) {
            NumberFerries x = new NumberFerries();
            for (int sign = 0; sign < 256; sign += i == 7 || i == 3 ? 1 : 5) {
                // Blanks but for byte i, which no line can begin with.
                long bytes = 0x2020202020202020L & ~(255L << 8 * i) | (long) sign << 8 * i;
                x.write(bytes, 8);
                due("fault() of " + sign + " at " + i, x.fault(), sign == 32 ? 8 : i);
                due("erase()", x.erase(), 8);
                if (sign % 100 == 0) x = new NumberFerries();
            }
        }
        // What is above the n bytes is none of THE TEXT: "shore" under bytes of 255.
        NumberFerries y = new NumberFerries();
        due("write(shore, 5)", y.write(0xffffff65726f6873L, 5), 5);
        due("fault()", y.fault(), NONE);
        due("write(59, 1)", y.write(-1L << 8 | 59, 1), 6);
        due("write(shore, 5)", y.write(0xffffff65726f6873L, 5), 11);
        due("shore()", y.shore(), 2);
    }

    private static NumberFerries ofBytes(int n) {
        NumberFerries x = Bounds.told("person 9 1");
        Bounds.put(x, "shore;stone 7 1");
        for (int had = 15; had < n; had++) x.write(32, 1);
        return x;
    }

    private static void writeFull() {
        says(2, "THE TEXT is a row of bytes, 200 at most");
        for (int room = 0; room <= 8; room++) {
            int had = 200 - room;
            for (int n = 1; n <= 8; n++) {
                int more = n;
                if (n > room) Bounds.refused(() -> ofBytes(had), "write(0, " + n + ") at " + had, x -> x.write(0, more), FULL);
                else due("write(0, " + n + ") at " + had, ofBytes(had).write(0, n), had + n);
            }
        }
        NumberFerries full = ofBytes(200);
        due("count(7)", full.count(7), 200);
        due("all 200 are read", full.shore(), 2);
        due("and THE TEXT has room again", full.write(0, 8), 8);
        says(2, "OUTSIDE; FULL.");
        for (int n : new int[] {0, 9, LOW, HIGH}) {
            Bounds.refused(() -> ofBytes(200), "write(0, " + n + ") at 200", x -> x.write(0, n), OUTSIDE);
        }
    }

    // ---- 3, erase

    private static void eraseBounds() {
        says(3, "THE TEXT is empty: how many bytes it had.");
        NumberFerries x = new NumberFerries();
        due("erase() of nothing", x.erase(), 0);
        x.write(120, 1);
        due("erase()", x.erase(), 1);
        due("erase() again", x.erase(), 0);
        due("count(7)", x.count(7), 0);
        for (int i = 0; i < 25; i++) x.write(0, 8);
        due("erase() of all 200", x.erase(), 200);
        for (int i = 1; i <= 25; i++) due("write behind erase()", x.write(0x2020202020202020L, 8), 8 * i);
        due("nothing of it is left", x.fault(), 200);
        NumberFerries day = Bounds.day();
        due("erase()", day.erase(), 15);
        due("count(0): what was told stays", day.count(0), 5);
        due("count(6): THE ROW stays", day.count(6), 3);
        due("back(0): what is kept stays", day.back(0), 0);
        due("shore() of what was erased", day.shore(), NOT);
    }

    // ---- 4, fault

    private static String shores(int lines) {
        return "shore" + ";shore".repeat(lines - 1);
    }

    private static void faultOfLines() {
        says(4, "LINES with ; (59) between, 12 at most");
        fault(shores(1), NONE);
        fault(shores(2), NONE);
        fault(shores(11), NONE);
        fault(shores(12), NONE);
        fault(shores(13), 71);
        fault(shores(12) + ";", 71);
        fault(shores(12) + "  ;  cow", 73);
        fault(shores(11) + ";", 66);
        fault("shore:shore", 5);
        fault("shore<shore", 5);
        fault("shore shore", 6);
        fault("shoreshore", 0);
        fault(";", 0);
        fault(";shore", 0);
        fault("shore;;shore", 6);
        fault("person 1 0;person 2 1;wish 1 9", NONE);
    }

    private static void faultOfWords() {
        says(4, "each is one of: shore. person W B. child W B. beast W B. stone W B. hat T P. wish T V. unsure T."
            + " exact N B R M. loose N B R M. turning N B R M.");
        String[] lines = {"shore", "person 1 0", "child 1 0", "beast 1 0", "stone 1 0", "hat 0 1", "wish 0 1",
            "unsure 0", "exact 1 0 1 1", "loose 1 0 1 1", "turning 1 0 1 1"};
        for (String line : lines) {
            String word = line.split(" ")[0];
            String rest = line.substring(word.length());
            fault("person 1 0", line, NONE);
            fault("person 1 0", word.substring(1) + rest, 0);
            fault("person 1 0", word.substring(0, word.length() - 1) + rest, 0);
            fault("person 1 0", word + "s" + rest, 0);
            fault("person 1 0", word + word + rest, 0);
            fault("person 1 0", "x" + word + rest, 0);
            for (int i = 0; i < word.length(); i++) {
                String other = word.substring(0, i) + (word.charAt(i) == 'q' ? 'z' : 'q') + word.substring(i + 1);
                fault("person 1 0", other + rest, 0);
            }
            // A number too many, a word behind, too few.
            fault("person 1 0", line + " 1", line.length() + 1);
            fault("person 1 0", line + " shore", line.length() + 1);
            fault("person 1 0", line + ";" + line.substring(0, line.length() - 1), word.equals("shore") ? 6 : 2 * line.length());
        }
        fault("shore.", 5);
        fault("W 1 0", 0);
        fault("1", 0);
        fault("point 1 0", 0);
    }

    private static void number(String[] row, String digits, boolean good) {
        int at = row[1].indexOf('%');
        fault(row[0], row[1].replace("%", digits), good ? NONE : at);
        fault(row[0], "shore;" + row[0] + ";" + row[1].replace("%", digits), good ? NONE : 7 + row[0].length() + at);
    }

    private static void faultOfNumbers() {
        says(4, "a number out of its bounds, of more digits, also");
        for (String[] row : NUMBERS) {
            int least = Integer.parseInt(row[2]);
            int most = Integer.parseInt(row[3]);
            number(row, row[2], true);
            number(row, row[3], true);
            if (least > 0) number(row, "" + (least - 1), false);
            number(row, "" + (most + 1), false);
            for (int high : new int[] {10, 100, 256, 257, 999}) {
                if (high > most) number(row, "" + high, false);
            }
        }
        says(4, "numbers of 1 to 3 digits");
        for (String[] row : NUMBERS) {
            int most = Integer.parseInt(row[3]);
            number(row, String.format("%03d", most), true);
            number(row, String.format("%04d", most), false);
            // What would be the number again if it were counted round.
            number(row, "" + (4294967296L + most), false);
            number(row, "1844674407370955161" + (6 + Math.min(3, most)), false);
            number(row, "-1", false);
            number(row, "+1", false);
            number(row, "x", false);
            number(row, ";", false);
        }
    }

    private static void faultOfTooMany() {
        says(4, "a ninth cannot stand there, nor a fourth FERRY (at its word)");
        String seven = EIGHT.substring(0, EIGHT.lastIndexOf(';'));
        for (String word : new String[] {"person", "child", "beast", "stone"}) {
            fault(seven + ";" + word + " 1 0", NONE);
            fault(EIGHT + ";" + word + " 1 0", EIGHT.length() + 1);
            fault(EIGHT + ";  " + word + " 100", EIGHT.length() + 3);
            fault(EIGHT, word + " 1 0", 0);
            fault(EIGHT, "wish 0 1; " + word, 10);
            fault(EIGHT, "shore;" + word + " 1 0", NONE);
            fault(seven, word + " 1 0", NONE);
            fault(seven, word + " 1 0;" + word + " 1 0", word.length() + 5);
        }
        String two = THREE.substring(0, THREE.lastIndexOf(';'));
        for (String word : new String[] {"exact", "loose", "turning"}) {
            fault(two + ";" + word + " 1 0 1 1", NONE);
            fault(THREE + ";" + word + " 1 0 1 1", THREE.length() + 1);
            fault(THREE + ";" + word + " 0", THREE.length() + 1);
            fault(THREE, word + " 1 0 1 1", 0);
            fault(THREE, "shore;" + word + " 1 0 1 1", NONE);
            fault(two, word + " 1 0 1 1", NONE);
            fault(two, word + " 1 0 1 1;" + word + " 1 0 1 1", word.length() + 9);
        }
        // The one bound is not the other's.
        fault(EIGHT, THREE, NONE);
        fault(THREE, EIGHT, NONE);
        fault(THREE + ";" + EIGHT, NONE);
        // Behind shore there are none of those that were, and no more fit than else.
        fault(THREE, "shore;" + THREE, NONE);
        fault(THREE, "shore;" + THREE + ";exact 1 0 1 1", THREE.length() + 7);
        fault(EIGHT, "shore;" + EIGHT, NONE);
        fault(EIGHT, "shore;" + EIGHT + ";stone 1 0", EIGHT.length() + 7);
    }

    private static void faultOfThings() {
        says(4, "hat: T a PERSON or CHILD (else a FAULT at T)");
        for (int t = 0; t < 8; t++) {
            fault(EIGHT, "hat " + t + " 9", t % 4 < 2 ? NONE : 4);
            fault(EIGHT + ";hat " + t + " 9", t % 4 < 2 ? NONE : EIGHT.length() + 5);
            fault(EIGHT, "hat " + t + " 10", t % 4 < 2 ? 6 : 4);
            fault(EIGHT, "wish " + t + " 9", NONE);
            fault(EIGHT, "unsure " + t, NONE);
        }
        fault("person 1 0;hat 0 1", NONE);
        fault("child 1 0;hat 0 1", NONE);
        fault("beast 1 0;hat 0 1", 14);
        fault("stone 1 0;hat 0 1", 14);
        fault("person 1 0", "shore;stone 1 0;hat 0 1", 20);
        fault("stone 1 0", "shore;child 1 0;hat 0 1", NONE);
        says(4, "T such as there are behind the LINES ahead");
        fault("hat 0 1;person 1 0", 4);
        fault("person 1 0;hat 0 1", NONE);
        fault("person 1 0;hat 1 1;person 1 0", 15);
        fault("person 1 0;person 1 0;hat 1 1", NONE);
        fault("person 1 0", "hat 0 1", NONE);
        fault("person 1 0", "hat 1 1", 4);
        fault("person 1 0", "shore;hat 0 1", 10);
        fault("person 1 0", "shore;wish 0 1", 11);
        fault("person 1 0", "shore;unsure 0", 13);
        fault("person 1 0", "unsure 0;shore", NONE);
        fault("person 1 0", "child 1 0;unsure 1;wish 1 1;hat 1 1;unsure 2", 43);
        fault(EIGHT, "unsure 8", 7);
        fault(EIGHT, "wish 32 1", 5);
        fault(EIGHT, "hat 32 1", 4);
        fault("unsure 0", 7);
        readAgain();
    }

    /** What was read and not done is not there for the text that is read next. */
    private static void readAgain() {
        NumberFerries x = Bounds.told("stone 1 0;person 1 0");
        String[] texts = {"shore;person 1 0;hat 0 1", "hat 0 1", "hat 1 1", "shore;stone 1 0;stone 1 0;hat 1 1",
            "hat 1 1", "shore;hat 1 1", "person 1 0;unsure 2", "unsure 2"};
        int[] want = {NONE, 4, NONE, 30, NONE, 10, NONE, 7};
        for (int i = 0; i < texts.length; i++) {
            Bounds.put(x, texts[i]);
            due("fault() of '" + texts[i] + "' behind others", x.fault(), want[i]);
            x.erase();
        }
    }

    private static void faultOfTokens() {
        says(4, "small letters a .. z");
        for (char c : new char[] {'`', '{', 'A', 'Z', '@', '[', 'S', 'O'}) {
            fault(c + "shore", 0);
            fault("shore" + c, 5);
            fault("sh" + c + "ore", 0);
        }
        for (char c : new char[] {'a', 'b', 'y', 'z'}) {
            fault("" + c, 0);
            fault("shore" + c, 0);
            fault("shore " + c, 6);
        }
        says(4, "blanks (32) between");
        fault("   shore   ", NONE);
        fault("shore  ;  shore", NONE);
        fault("person  1   0", NONE);
        for (char c : new char[] {0, 9, 10, 13, 31, 33, 64, 95, 128, 160, 224, 255}) {
            fault("person" + c + "1 0", 6);
            fault("person 1" + c + "0", 8);
            fault("shore" + c, 5);
            fault(c + "shore", 0);
        }
        says(4, "A FAULT is at the first TOKEN (a row of small letters, a row of digits, any other byte) that cannot stand there");
        fault("person 1 2 3;cow", 9);
        fault("shore cow 1;", 6);
        fault("person 100 100", 7);
        fault("exact 1 2 9 0", 8);
        fault("person 12x 0", 9);
        fault("person 1 0x", 10);
        fault("person ,,", 7);
        fault("person 1,,0", 8);
        fault("person 1/0", 8);
        fault("person 1:0", 8);
        fault("person /1 0", 7);
        fault("person :1 0", 7);
    }

    private static void faultPlaces() {
        says(4, "or at the end, if it comes too soon");
        fault("", 0);
        fault(" ", 1);
        fault("        ", 8);
        fault("shore;", 6);
        fault("shore; ", 7);
        for (String[] row : NUMBERS) {
            String cut = row[1].substring(0, row[1].indexOf('%'));
            fault(row[0], cut, cut.length());
            fault(row[0], cut.trim(), cut.length() - 1);
            fault(row[0], cut + "   ", cut.length() + 3);
        }
        says(4, "The place of the FAULT (the byte with which the TOKEN begins, or the length); NONE.");
        fault("shore" + " ".repeat(195), NONE);
        fault("shore" + " ".repeat(194) + "x", 199);
        fault("shore" + " ".repeat(194) + ";", 200);
        fault("shore;" + " ".repeat(194), 200);
        fault(" ".repeat(200), 200);
        fault(" ".repeat(195) + "shore", NONE);
        fault(" ".repeat(196) + "shor", 196);
        fault(" ".repeat(190) + "person 9 0", NONE);
        fault(" ".repeat(190) + "person 999", 197);
        fault("x".repeat(200), 0);
        fault("9".repeat(200), 0);
        fault("person " + "9".repeat(193), 7);
        fault(";".repeat(200), 0);
        Bounds.onlyTells(Bounds::day, "fault()", NumberFerries::fault, NONE);
        Bounds.onlyTells(() -> ofBytes(16), "fault()", NumberFerries::fault, NONE);
        Bounds.onlyTells(() -> with("person 1 0;stone"), "fault()", NumberFerries::fault, 16);
    }

    // ---- 5, shore

    private static NumberFerries dayWith(String text) {
        NumberFerries x = Bounds.day();
        x.erase();
        Bounds.put(x, text);
        return x;
    }

    private static void shoreRefused() {
        says(5, "NOT: it has a FAULT.");
        String[] texts = {"", " ", ";", "shore;", "shore;stone 7 2", "stone 7 1;hat 5 1", "shore 1", "unsure 5",
            "person 1 0;person 1 0;person 1 0;person 1 0", "exact 1 0 1 1", shores(13)};
        for (String text : texts) {
            Bounds.refused(() -> dayWith(text), "shore() of '" + text + "'", NumberFerries::shore, NOT);
        }
        NumberFerries x = dayWith("shore;stone 7 1;");
        due("shore()", x.shore(), NOT);
        due("THE TEXT stays", x.count(7), 16);
        Bounds.put(x, "stone 8 1");
        due("and can be gone on with", x.shore(), 3);
        due("count(0)", x.count(0), 2);
    }

    private static void shoreDone() {
        says(5, "THE TEXT's LINES are done, and it is empty then: how many there were.");
        for (int lines = 1; lines <= 12; lines++) {
            NumberFerries x = dayWith(shores(lines));
            due("shore()", x.shore(), lines);
            due("count(7)", x.count(7), 0);
            due("shore() again", x.shore(), NOT);
            due("erase()", x.erase(), 0);
        }
        says(5, "shore: no THINGS, no FERRIES; person ..: a THING more");
        NumberFerries x = dayWith("shore");
        due("shore()", x.shore(), 1);
        for (int what = 0; what < 8; what++) due("count(" + what + ")", x.count(what), 0);
        due("thing(0, 0)", x.thing(0, 0), UNKNOWN);
        due("ferry(0, 0)", x.ferry(0, 0), UNKNOWN);
        NumberFerries more = dayWith("person 99 1");
        due("shore()", more.shore(), 1);
        due("count(0)", more.count(0), 6);
        due("count(1)", more.count(1), 3);
        due("thing(5, 1)", more.thing(5, 1), 99);
        says(5, "LINES are done in their order.");
        NumberFerries y = Bounds.told("person 1 0;hat 0 9;hat 0 0;wish 0 1;wish 0 8;person 2 0;exact 3 0 1 1;shore;"
            + "stone 4 1;loose 5 1 2 3;beast 6 0;wish 1 2");
        due("count(0)", y.count(0), 2);
        due("count(1)", y.count(1), 1);
        due("thing(0, 1)", y.thing(0, 1), 4);
        due("thing(1, 1)", y.thing(1, 1), 6);
        due("thing(1, 5)", y.thing(1, 5), 2);
        due("ferry(0, 1)", y.ferry(0, 1), 5);
        NumberFerries last = Bounds.told("person 1 0;hat 0 9;hat 0 3;wish 0 9;wish 0 0");
        due("the last hat told", last.thing(0, 3), 3);
        due("the last wish told", last.thing(0, 5), 0);
    }

    /** Places of the day before are told anew; what was in them must be gone. */
    private static void shoreAtFirst() {
        String eight = "person 9 1;person 9 1;person 9 1;person 9 1;person 9 1;person 9 1;person 9 1;person 9 1";
        NumberFerries x = Bounds.told(eight, "hat 0 9;hat 7 9;wish 0 9;wish 7 9;unsure 0;unsure 7",
            "shore;" + EIGHT);
        says(5, "a WISH (0 .. 9; 0 at first)");
        for (int t = 0; t < 8; t++) due("thing(" + t + ", 5)", x.thing(t, 5), 0);
        says(5, "a PERSON or CHILD has a HAT of 0 .. 9 pounds (0 at first), on at first");
        for (int t = 0; t < 8; t++) {
            due("thing(" + t + ", 3)", x.thing(t, 3), 0);
            due("thing(" + t + ", 4)", x.thing(t, 4), t % 4 < 2 ? 1 : 0);
            due("thing(" + t + ", 7)", x.thing(t, 7), t + 1);
        }
        says(5, "A THING is UNSURE or not (as at first).");
        for (int t = 0; t < 8; t++) due("thing(" + t + ", 6)", x.thing(t, 6), 0);
        Bounds.put(x, "unsure 3;unsure 3");
        due("shore()", x.shore(), 2);
        due("told twice it is still so", x.thing(3, 6), 1);
        says(5, "of a KIND, 0 PERSON, 1 CHILD, 2 BEAST, 3 STONE, of a WEIGHT (1 ..");
        // A child in the place of a person, one that is sure in that of one that was not.
        NumberFerries y = Bounds.told("person 9 0;person 9 0;unsure 1;exact 9 0 1 1", "shore;child 9 0;person 9 0;exact 9 0 1 1");
        due("right(0, 1)", y.right(0, 1), 0);
        due("loads(0, 0)", y.loads(0, 0), 1);
        due("sure(0)", y.sure(0), 1);
        Bounds.put(y, "shore;stone 9 0");
        due("shore()", y.shore(), 2);
        due("doff(0): it had a hat once", y.doff(0), NOT);
    }

    private static void shoreDay() {
        says(5, "Behind them all are on their BANKS as told");
        NumberFerries x = dayWith("wish 0 1");
        due("count(2) ahead", x.count(2), 21);
        due("count(3) ahead", x.count(3), 3);
        due("shore()", x.shore(), 1);
        due("count(2)", x.count(2), 16);
        due("count(3)", x.count(3), 2);
        says(5, "HATS are on");
        due("thing(1, 4)", x.thing(1, 4), 1);
        due("thing(1, 7)", x.thing(1, 7), 6);
        due("stones(0, 3, 1): weighed with them", x.stones(0, 3, 1), NONE);
        due("weighed(0, 6)", x.weighed(0, 6), 1);
        says(5, "it is MORNING");
        due("count(5)", x.count(5), 0);
        due("ferry(2, 1)", x.ferry(2, 1), 81);
        says(5, "no CROSSING was made");
        due("count(4)", x.count(4), 0);
        due("keep(1)", dayAgain().keep(1), 0);
        due("cross(0, 5)", dayAgain().cross(0, 5), 1);
        says(5, "no ROW is told");
        due("count(6)", x.count(6), 0);
        due("judge()", x.judge(), NONE);
        due("burn()", x.burn(), 0);
        due("row(0, 5)", x.row(0, 5), 1);
        says(5, "nothing is kept.");
        due("back(0)", x.back(0), NOT);
        due("back(1)", x.back(1), NOT);
        due("keep(0)", x.keep(0), 0);
        due("back(0)", x.back(0), 0);
        due("back(1)", x.back(1), NOT);
    }

    private static NumberFerries dayAgain() {
        NumberFerries x = dayWith("wish 0 1");
        x.shore();
        return x;
    }
}
