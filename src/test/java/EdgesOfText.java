import java.util.Arrays;

/** The tape, its tokens, a road's items and faults; promises 1 to 8. */
final class EdgesOfText {
    private static final int BAD = Edges.BAD, FULL = Edges.FULL, NONE = Edges.NONE;
    private static final int TERMS = Edges.TERMS;
    private static final int NO_TOKEN = 1, OUT_OF_PLACE = 2, OUT_OF_BOUNDS = 3, TOLD_ALREADY = 4;
    private static final int[] AT_FIRST = {10, 60, 30, 1, 4, 2, 5, 12, 12, 0};
    private static final long BLANKS = 0x2020202020202020L;
    private final Edges e;

    EdgesOfText(Edges e) {
        this.e = e;
    }

    void all() {
        tapeBytes();
        longestTokens();
        blanks();
        blanksNeeded();
        names();
        numbers();
        everyOtherByte();
        items();
        minutesItem();
        minutesAtFirst();
        mixedItem();
        doubtUnreadColour();
        offAndJoined();
        lateAndEarly();
        firstFaultMet();
        faultOne();
        faultTwo();
        faultThree();
        faultFour();
        roadTellsAll();
        roadLeaves();
        newObject();
        feed();
        feedFull();
        end();
        endBad();
        road();
        roadFault();
        fault();
        rule();
        ruleBad();
        mixed();
        mixedBad();
        setClock();
        setClockBad();
    }

    // ---- what the tests of this part share

    /** A road that is told is still there when another one has a fault. */
    private void fault(String text, int kind, int place) {
        HalfNumber x = new HalfNumber();
        Due.road(x, "minutes 1 2 2 3; mixed a b 9; off 3; early 4;");
        e.is("road() of '" + text + "'", Due.road(x, text), -10 - place);
        e.is("fault() of '" + text + "'", x.fault(), kind);
        e.is("bytes on THE TAPE behind '" + text + "'", x.count(4), 0);
        int[] told = {1, 2, 2, 3, 4, 2, 5, 3, 12, -4};
        for (int what = 0; what < 10; what++) e.is("rule(" + what + ") behind '" + text + "'", x.rule(what), told[what]);
        e.is("mixed a b behind '" + text + "'", x.mixed(0, 1), 9);
        e.is("mixed b a behind '" + text + "'", x.mixed(1, 0), NONE);
    }

    private HalfNumber taken(String text, int items) {
        HalfNumber x = new HalfNumber();
        e.is("road() of '" + text + "'", Due.road(x, text), items);
        e.is("fault() of '" + text + "'", x.fault(), 0);
        return x;
    }

    private void tells(String text, int what, int due) {
        e.is("rule(" + what + ") by '" + text + "'", taken(text, 1).rule(what), due);
    }

    private static String blanks(int n) {
        return " ".repeat(n);
    }

    // ---- the tape and its tokens

    private void tapeBytes() {
        e.sentence(TERMS, "THE TAPE has 320 bytes, places from 0.");
        e.is("off at the last places", taken(blanks(313) + "off 98;", 1).rule(7), 98);
        taken(blanks(320), 0);
        fault("!", NO_TOKEN, 0);
        fault(blanks(1) + "!", NO_TOKEN, 1);
        fault(blanks(319) + "!", NO_TOKEN, 319);
        fault("off" + blanks(317), OUT_OF_PLACE, 320);
        fault("off" + blanks(316), OUT_OF_PLACE, 319);
        e.refused("feed() of 320", () -> Made.withTape(320), x -> x.feed(0), FULL);
    }

    private void longestTokens() {
        e.sentence(TERMS, "TOKENS, each as long as may be");
        fault("offoff 1;", OUT_OF_PLACE, 0);
        fault("offs 1;", OUT_OF_PLACE, 0);
        tells("off 12;", 7, 12);
        tells("off 1 ;", 7, 1);
        fault("mixed ab 1;", OUT_OF_BOUNDS, 6);
        fault("off 1;;", OUT_OF_PLACE, 6);
    }

    private void blanks() {
        e.sentence(TERMS, "any number of blanks (32) ahead of, between, behind them");
        taken("off1;", 1);
        taken(" off 1 ; ", 1);
        taken(blanks(70) + "off" + blanks(80) + "1" + blanks(80) + ";" + blanks(80), 1);
        for (char other : new char[] {0, 9, 10, 13, 31, 33, 160}) {
            fault(other + "off 1;", NO_TOKEN, 0);
            fault("off" + other + "1;", NO_TOKEN, 3);
            fault("off 1;" + other, NO_TOKEN, 6);
        }
    }

    private void blanksNeeded() {
        e.sentence(TERMS, "(one at least between two NAMES, between two NUMBERS; else none is needed)");
        taken("mixed a b1;off2;minutes0 1 1 1;", 3);
        fault("mixeda b1;", OUT_OF_PLACE, 0);
        fault("mixed ab1;", OUT_OF_BOUNDS, 6);
        fault("minutes0 11 1;", OUT_OF_PLACE, 13);
        fault("minutes0 1 11;", OUT_OF_BOUNDS, 11);
        fault("minutes0111;", NO_TOKEN, 7);
    }

    private void names() {
        e.sentence(TERMS, "NAMES (a .. z)");
        fault("a", OUT_OF_PLACE, 0);
        fault("z", OUT_OF_PLACE, 0);
        for (char other : new char[] {'`', '{', 'A', 'Z', '@', '[', 'O'}) fault(other + "ff 1;", NO_TOKEN, 0);
        // a name ends where another byte stands, and is looked at ahead of it
        fault("of`", OUT_OF_PLACE, 0);
        fault("off{", NO_TOKEN, 3);
    }

    private void numbers() {
        e.sentence(TERMS, "NUMBERS (1 to 3 figures)");
        tells("off 9;", 7, 9);
        tells("off 09;", 7, 9);
        tells("off 009;", 7, 9);
        tells("off 000;", 7, 0);
        fault("off 0009;", NO_TOKEN, 4);
        fault("off 4294967297;", NO_TOKEN, 4);
        fault("off 18446744073709551617;", NO_TOKEN, 4);
        fault("off " + "0".repeat(316), NO_TOKEN, 4);
        fault("off /;", NO_TOKEN, 4);
        fault("off :;", NO_TOKEN, 4);
        fault("off 1:", NO_TOKEN, 5);
        fault("off -1;", NO_TOKEN, 4);
        fault("off +1;", NO_TOKEN, 4);
    }

    private void everyOtherByte() {
        e.sentence(TERMS, "the sign ; (every other byte is no TOKEN)");
        for (int b = 0; b < 256; b++) {
            boolean token = b == ';' || b >= 'a' && b <= 'z' || b >= '0' && b <= '9';
            if (b == ' ') taken(" ", 0);
            else fault("" + (char) b, token ? OUT_OF_PLACE : NO_TOKEN, 0);
            if (b == ';') taken("off 1;", 1);
            else if (b == ' ') fault("off 1 ", OUT_OF_PLACE, 6);
            else if (b < '0' || b > '9') fault("off 1" + (char) b, token ? OUT_OF_PLACE : NO_TOKEN, 5);
        }
    }

    // ---- items

    private void items() {
        e.sentence(TERMS, "road: { item } item: minutes N N N N ; | mixed L L N ; | doubt N ; | unread N ; | colour N ; | off N ; | joined N ; | late N ; | early N ;");
        taken("", 0);
        String[] items = {"minutes 1 9 5 2 ;", "mixed a b 3 ;", "doubt 1 ;", "unread 1 ;", "colour 1 ;", "off 1 ;", "joined 1 ;", "late 1 ;", "early 1 ;"};
        for (String item : items) {
            taken(item, 1);
            cutItem(item.split(" "));
        }
        taken(String.join(" ", Arrays.copyOf(items, 8)), 8);
    }

    /** An item that ends too early, and one whose next token is of another kind. */
    private void cutItem(String[] tokens) {
        String ahead = tokens[0];
        for (int k = 1; k < tokens.length; k++) {
            fault(ahead, OUT_OF_PLACE, ahead.length());
            fault(ahead + "  ", OUT_OF_PLACE, ahead.length() + 2);
            for (String other : new String[] {"h", "7", ";"}) {
                if (kindOf(other) != kindOf(tokens[k])) fault(ahead + " " + other, OUT_OF_PLACE, ahead.length() + 1);
            }
            ahead += " " + tokens[k];
        }
        for (String other : new String[] {"h", "7", ";"}) fault(ahead + other, OUT_OF_PLACE, ahead.length());
    }

    private static int kindOf(String token) {
        char c = token.charAt(0);
        return c == ';' ? 0 : c <= '9' ? 1 : 2;
    }

    private void minutesItem() {
        e.sentence(TERMS, "minutes: LEAST, MOST (0 to 500 each, MOST no less), USUAL (LEAST to MOST), points for a minute off (0 to 9)");
        String least = "minutes 0 0 0 0;";
        for (int what = 0; what < 4; what++) tells(least, what, 0);
        String most = "minutes 500 500 500 9;";
        for (int what = 0; what < 4; what++) tells(most, what, what < 3 ? 500 : 9);
        fault("minutes 501 500 500 9;", OUT_OF_BOUNDS, 8);
        fault("minutes 501 501 501 9;", OUT_OF_BOUNDS, 8);
        fault("minutes 500 501 500 9;", OUT_OF_BOUNDS, 12);
        fault("minutes 500 499 500 9;", OUT_OF_BOUNDS, 12);
        tells("minutes 40 41 40 0;", 2, 40);
        tells("minutes 40 41 41 0;", 2, 41);
        fault("minutes 40 41 39 0;", OUT_OF_BOUNDS, 14);
        fault("minutes 40 41 42 0;", OUT_OF_BOUNDS, 14);
        fault("minutes 40 41 40 10;", OUT_OF_BOUNDS, 17);
    }

    private void minutesAtFirst() {
        e.sentence(TERMS, "(10, 60, 30 and 1, if it is not told)");
        for (int what = 0; what < 4; what++) {
            tells("off 1;", what, AT_FIRST[what]);
            e.is("rule(" + what + ") of a new object", new HalfNumber().rule(what), AT_FIRST[what]);
        }
    }

    private void mixedItem() {
        e.sentence(TERMS, "mixed: LETTER L at IN is written as another one at OUT: points (0 to 50).");
        HalfNumber x = taken("mixed a h 0; mixed h a 50;", 2);
        e.is("a at IN, h at OUT", x.mixed(0, 7), 0);
        e.is("h at IN, a at OUT", x.mixed(7, 0), 50);
        fault("mixed a h 51;", OUT_OF_BOUNDS, 10);
        fault("mixed a i 1;", OUT_OF_BOUNDS, 8);
        fault("mixed i a 1;", OUT_OF_BOUNDS, 6);
        fault("mixed c c 1;", OUT_OF_BOUNDS, 8);
        for (char a = 'a'; a <= 'h'; a++) {
            for (char b = 'a'; b <= 'h'; b++) {
                if (a != b) e.is("mixed " + a + " " + b, taken("mixed " + a + " " + b + " 7;", 1).mixed(a - 'a', b - 'a'), 7);
            }
        }
    }

    private void doubtUnreadColour() {
        e.sentence(TERMS, "doubt (4), unread (2), colour (5): points (0 to 50).");
        String[] names = {"doubt", "unread", "colour"};
        int[] first = {4, 2, 5};
        for (int k = 0; k < 3; k++) {
            e.is(names[k] + " at first", new HalfNumber().rule(4 + k), first[k]);
            e.is(names[k] + " if it is not told", taken("off 1;", 1).rule(4 + k), first[k]);
            tells(names[k] + " 0;", 4 + k, 0);
            tells(names[k] + " 50;", 4 + k, 50);
            fault(names[k] + " 51;", OUT_OF_BOUNDS, names[k].length() + 1);
            fault(names[k] + " 999;", OUT_OF_BOUNDS, names[k].length() + 1);
        }
    }

    private void offAndJoined() {
        e.sentence(TERMS, "off (12): points of a LINE of IN without any of OUT, joined (12): of one of OUT (0 to 99).");
        String[] names = {"off", "joined"};
        for (int k = 0; k < 2; k++) {
            e.is(names[k] + " at first", new HalfNumber().rule(7 + k), 12);
            e.is(names[k] + " if it is not told", taken("doubt 1;", 1).rule(7 + k), 12);
            tells(names[k] + " 0;", 7 + k, 0);
            tells(names[k] + " 99;", 7 + k, 99);
            fault(names[k] + " 100;", OUT_OF_BOUNDS, names[k].length() + 1);
        }
        HalfNumber x = taken("off 99; joined 1;", 2);
        x.line(0, 0, 0, 0);
        e.is("a LINE of IN without any", x.best(0), 99);
        x.line(1, 0, 0, 0);
        x.line(1, 0, 0, 0);
        e.is("and two of OUT", x.best(0), 101);
    }

    private void lateAndEarly() {
        e.sentence(TERMS, "late: the CLOCK of OUT tells so many minutes more (0 to 99; 0), early: fewer.");
        e.is("the CLOCK at first", new HalfNumber().rule(9), 0);
        e.is("the CLOCK if it is not told", taken("off 1;", 1).rule(9), 0);
        tells("late 0;", 9, 0);
        tells("late 99;", 9, 99);
        fault("late 100;", OUT_OF_BOUNDS, 5);
        tells("early 0;", 9, 0);
        tells("early 99;", 9, -99);
        fault("early 100;", OUT_OF_BOUNDS, 6);
    }

    // ---- faults

    private void firstFaultMet() {
        e.sentence(TERMS, "FAULTS, the first met as it is read (a TOKEN is read when the one before has been taken):");
        fault("off 100!", OUT_OF_BOUNDS, 4);
        fault("off! 100", NO_TOKEN, 3);
        fault("of !", OUT_OF_PLACE, 0);
        fault("off 1 1234;", NO_TOKEN, 6);
        fault("off 1; off !", TOLD_ALREADY, 7);
        fault("mixed i!", OUT_OF_BOUNDS, 6);
        fault("mixed a a!", OUT_OF_BOUNDS, 8);
        fault("mixed a b1;mixed a b51;", TOLD_ALREADY, 19);
        fault("late 1;early 100;", TOLD_ALREADY, 7);
        fault("minutes 501!", OUT_OF_BOUNDS, 8);
        fault("minutes 5 4!", OUT_OF_BOUNDS, 10);
        fault("minutes 5 6 7!", OUT_OF_BOUNDS, 12);
        fault("minutes 5 6 6 10!", OUT_OF_BOUNDS, 14);
        fault("off 1; doubt 51; !", OUT_OF_BOUNDS, 13);
    }

    private void faultOne() {
        e.sentence(TERMS, "1 no TOKEN, a NUMBER that is too long (its first byte).");
        fault("!", NO_TOKEN, 0);
        fault("off 1;!", NO_TOKEN, 6);
        fault("1234", NO_TOKEN, 0);
        fault("123", OUT_OF_PLACE, 0);
        fault("off  1234;", NO_TOKEN, 5);
        fault("off  123;", OUT_OF_BOUNDS, 5);
        fault("mixed 1234", NO_TOKEN, 6);
        fault("mixed 123", OUT_OF_PLACE, 6);
        fault("off 99 9999", NO_TOKEN, 7);
        fault("off 99 999", OUT_OF_PLACE, 7);
        fault("off 12345!", NO_TOKEN, 4);
    }

    private void faultTwo() {
        e.sentence(TERMS, "2 a TOKEN that can not stand there (a NAME that begins no item; or the end: the length).");
        fault("minute 1;", OUT_OF_PLACE, 0);
        fault("minutess 1;", OUT_OF_PLACE, 0);
        for (String name : new String[] {"mix", "mixe", "mixeds", "doub", "doubts", "unrea", "unreads", "colou", "colours", "of", "offs", "joine", "joineds", "lat", "lates", "earl", "earlys"}) {
            fault("  " + name + " 1;", OUT_OF_PLACE, 2);
        }
        for (String name : new String[] {"ninutes", "minuter", "nixed", "mixec", "eoubt", "doubs", "vnread", "unreac", "dolour", "colous", "pff", "ofe", "koined", "joinec", "mate", "latf", "farly", "earlz"}) {
            fault("  " + name + " 1;", OUT_OF_PLACE, 2);
        }
        fault("off", OUT_OF_PLACE, 3);
        fault("off ", OUT_OF_PLACE, 4);
        fault("off 1", OUT_OF_PLACE, 5);
        fault("off 1 ", OUT_OF_PLACE, 6);
        fault("off 1;joined", OUT_OF_PLACE, 12);
        fault(";", OUT_OF_PLACE, 0);
        fault("7", OUT_OF_PLACE, 0);
        // the end behind a whole item, or of nothing at all, is no fault
        taken("off 1;", 1);
        taken("", 0);
        taken("   ", 0);
    }

    private void faultThree() {
        e.sentence(TERMS, "3 a NUMBER out of its bounds, a NAME that is no LETTER (one letter, a to h), the second of mixed like the first.");
        fault("off 100;", OUT_OF_BOUNDS, 4);
        taken("off 99;", 1);
        for (String name : new String[] {"i", "z", "aa", "ah", "ha", "off"}) {
            fault("mixed " + name + " a 1;", OUT_OF_BOUNDS, 6);
            fault("mixed b " + name + " 1;", OUT_OF_BOUNDS, 8);
        }
        for (char letter = 'a'; letter <= 'h'; letter++) {
            fault("mixed " + letter + " " + letter + " 1;", OUT_OF_BOUNDS, 8);
            char other = letter == 'h' ? 'a' : (char) (letter + 1);
            e.is("mixed " + letter + " " + other, taken("mixed " + letter + " " + other + " 1;", 1).mixed(letter - 'a', other - 'a'), 1);
        }
    }

    private void faultFour() {
        e.sentence(TERMS, "4 what is told already (its NAME; mixed of the same two in that order: the second LETTER; late and early: one of both alone).");
        fault("minutes 1 2 2 0; minutes 1 2 2 0;", TOLD_ALREADY, 17);
        for (String name : new String[] {"doubt", "unread", "colour", "off", "joined", "late", "early"}) {
            fault(name + " 0;" + name + " 0;", TOLD_ALREADY, name.length() + 3);
            taken(name + " 0;", 1);
        }
        fault("mixed a b 0; mixed a b 0;", TOLD_ALREADY, 21);
        fault("mixed a b 0; mixed b a 0; mixed a b 0;", TOLD_ALREADY, 34);
        taken("mixed a b 0; mixed b a 0; mixed a c 0; mixed c b 0;", 4);
        fault("late 0; early 0;", TOLD_ALREADY, 8);
        fault("early 0; late 0;", TOLD_ALREADY, 9);
        HalfNumber x = taken("off 1; late 1; mixed a b 1;", 3);
        e.is("what an earlier road told is not told already", Due.road(x, "off 2; early 2; mixed a b 2;"), 3);
        e.is("a FAULT is told", Due.road(x, "off 3; off"), -17);
        e.is("what a road with a FAULT told is not told already", Due.road(x, "off 4;"), 1);
    }

    private void roadTellsAll() {
        e.sentence(TERMS, "A road that is taken tells all, in place of what there was (what no item tells is as at first)");
        HalfNumber x = taken("minutes 1 2 2 3; mixed a b 1; doubt 9; unread 9; colour 9; off 9; joined 9; late 9;", 8);
        e.is("a road of one item", Due.road(x, "unread 7;"), 1);
        for (int what = 0; what < 10; what++) e.is("rule(" + what + ")", x.rule(what), what == 5 ? 7 : AT_FIRST[what]);
        e.is("mixed a b", x.mixed(0, 1), NONE);
        x.setClock(-99);
        e.is("a road of none", x.road(), 0);
        for (int what = 0; what < 10; what++) e.is("rule(" + what + ")", x.rule(what), AT_FIRST[what]);
    }

    private void roadLeaves() {
        e.sentence(TERMS, "LINES, THE TOLD PAIRING, IMAGES stay; SHEETS stay.");
        HalfNumber x = Made.some();
        e.is("a road of one item", x.road(), 1);
        e.is("LINES of IN", x.count(0), 4);
        e.is("LINES of OUT", x.count(1), 3);
        e.is("a plate", x.of(0, 1, 1), Due.plate("aBc."));
        int[] told = {1, 0, 2, NONE, NONE, NONE, NONE, NONE, NONE, 3};
        for (int i = 0; i < 10; i++) e.is("told " + i, x.tell(i, told[i]), told[i]);
        e.is("IMAGES", x.count(3), 2);
        e.is("CELLS of SHEET 0", x.count(5), 3);
        e.is("torn()", x.torn(), 2);
        e.is("CELL 5 of SHEET 1", x.read(1, 1, 0, 1, 1), 1);
        e.is("is a COLOUR", x.of(1, 3, 2), 5);
        e.is("IMAGE 0 has its own road", x.back(0), 6);
        e.is("its CLOCK", x.rule(9), -2);
    }

    // ---- promises 1 to 8

    private void newObject() {
        e.sentence(1, "The road as told at first; no LINES; SHEETS have nothing.");
        HalfNumber x = new HalfNumber();
        for (int what = 0; what < 10; what++) e.is("rule(" + what + ")", x.rule(what), AT_FIRST[what]);
        for (int a = 0; a < 8; a++) for (int b = 0; b < 8; b++) if (a != b) e.is("mixed", x.mixed(a, b), NONE);
        int[] counts = {0, 0, 0, 0, 0, NONE};
        for (int what = 0; what < 6; what++) e.is("count(" + what + ")", x.count(what), counts[what]);
        for (int end = 0; end < 2; end++) e.is("LINE 0 of END " + end, x.of(end, 0, 0), BAD);
        for (int k = 0; k < 4; k++) e.is("lay() of SHEET " + k, x.lay(k, 0, 0), -11);
        for (int k = 0; k < 2; k++) e.is("IMAGE " + k, x.back(k), Edges.STATE);
        for (int i = 0; i < 10; i++) e.is("told " + i, x.tell(i, NONE), NONE);
        e.is("fault()", x.fault(), 0);
        e.is("torn()", x.torn(), 0);
    }

    private void feed() {
        e.sentence(2, "Eight bytes come behind THE TAPE, the highest first: how many it has.");
        HalfNumber x = new HalfNumber();
        for (int k = 1; k <= 40; k++) e.is("feed() " + k, x.feed(BLANKS), 8 * k);
        for (int b = 0; b < 8; b++) {
            HalfNumber y = new HalfNumber();
            y.feed(BLANKS);
            y.feed(BLANKS ^ 0x20L << 56 - 8 * b);
            e.is("byte 0 comes as byte " + b + " of the second eight", y.road(), -18 - b);
            e.is("it is no TOKEN", y.fault(), 1);
        }
        for (long v : new long[] {-1, Long.MIN_VALUE, Long.MAX_VALUE, 0}) {
            HalfNumber y = new HalfNumber();
            e.is("feed(" + v + ")", y.feed(v), 8);
            e.is("its highest byte is no TOKEN", y.road(), -10);
        }
        HalfNumber z = new HalfNumber();
        z.feed(0x6f66662035203b00L);
        e.is("the lowest byte is the last one", z.road(), -17);
        z.feed(0x6f66662035203b20L);
        e.is("off 5 ;", z.road(), 1);
        e.is("off", z.rule(7), 5);
        z.feed(BLANKS);
        z.end(5);
        e.is("behind five bytes", z.feed(BLANKS), 13);
    }

    private void feedFull() {
        e.sentence(2, "FULL: more than 320.");
        for (int bytes = 313; bytes <= 320; bytes++) {
            int n = bytes;
            e.refused("feed() behind " + n + " bytes", () -> Made.withTape(n), x -> x.feed(-1), FULL);
        }
        HalfNumber x = Made.withTape(312);
        e.is("feed() behind 312 bytes", x.feed(BLANKS), 320);
        e.is("and once more", x.feed(BLANKS), FULL);
        e.is("THE TAPE is as it was", x.road(), 1);
    }

    private void end() {
        e.sentence(3, "THE TAPE keeps its first n bytes: how many it had.");
        HalfNumber x = new HalfNumber();
        e.is("end(0) of none", x.end(0), 0);
        Due.feed(x, "off 456;");
        e.is("end(8) of 8", x.end(8), 8);
        e.is("it has 8", x.count(4), 8);
        e.is("end(6) of 8", x.end(6), 8);
        e.is("it has 6", x.count(4), 6);
        x.feed(0x3b20202020202020L);
        e.is("the first six and what came behind them", x.road(), 1);
        e.is("off", x.rule(7), 45);
        x.feed(BLANKS);
        e.is("end(0) of 8", x.end(0), 8);
        e.is("it has none", x.count(4), 0);
        e.is("of a full one", Made.withTape(320).end(320), 320);
    }

    private void endBad() {
        e.sentence(3, "BAD (n above that, too).");
        e.refusedBy("end() of none", HalfNumber::new, Edges.outside(0, 0), HalfNumber::end, BAD);
        e.refusedBy("end() of 8", Made::some, Edges.outside(0, 8), HalfNumber::end, BAD);
        e.refusedBy("end() of 320", () -> Made.withTape(320), Edges.outside(0, 320), HalfNumber::end, BAD);
        HalfNumber x = Made.some();
        x.end(7);
        e.is("end(8) of 7: what is gone does not come back", x.end(8), BAD);
        e.is("end(7) of 7", x.end(7), 7);
    }

    private void road() {
        e.sentence(4, "THE TAPE (empty then, by a FAULT, too) tells the road: how many items");
        HalfNumber x = new HalfNumber();
        e.is("of none", x.road(), 0);
        e.is("of one", Due.road(x, "off 1;"), 1);
        e.is("empty then", x.count(4), 0);
        e.is("of none again", x.road(), 0);
        e.is("as at first", x.rule(7), 12);
        e.is("with a FAULT", Due.road(x, "off 1; off 2;"), -17);
        e.is("empty then, too", x.count(4), 0);
        e.is("of none behind a FAULT", x.road(), 0);
        StringBuilder text = new StringBuilder();
        int items = 0;
        for (char a = 'a'; a <= 'd'; a++) for (char b = 'a'; b <= 'h'; b++) if (a != b && items++ < 28) text.append("mixed ").append(a).append(' ').append(b).append("1;");
        e.is("of as many as these", Due.road(x, text.toString()), 28);
    }

    private void roadFault() {
        e.sentence(4, "-10 less the place of its FAULT: that which was told stays.");
        fault("!", NO_TOKEN, 0);
        fault("off 1;!", NO_TOKEN, 6);
        String all = "minutes 0 0 0 0; mixed b a 1; mixed a b 1; doubt 0; unread 0; colour 0; off 0; joined 0; late 0;";
        fault(all + "!", NO_TOKEN, all.length());
        fault(blanks(320 - 3) + "off", OUT_OF_PLACE, 320);
        HalfNumber x = Made.some();
        x.end(5);
        e.is("road() of 'late '", x.road(), -15);
        e.is("the CLOCK stays as it was set", x.rule(9), -3);
        e.is("LINES stay", x.count(0) + x.count(1), 7);
    }

    private void fault() {
        e.sentence(5, "The FAULT of the latest road(); 0.");
        HalfNumber x = new HalfNumber();
        e.is("at first", x.fault(), 0);
        String[] texts = {"!", "off", "off 100;", "off 1; off"};
        for (int k = 0; k < 4; k++) {
            Due.road(x, texts[k]);
            e.is("of '" + texts[k] + "'", x.fault(), k + 1);
            e.is("asked again", x.fault(), k + 1);
        }
        Due.feed(x, "off 1;");
        e.is("until the next road()", x.fault(), 4);
        x.read(0, 0, 0, 1, 0);
        e.is("whatever read() finds", x.fault(), 4);
        x.keep(0);
        x.road();
        e.is("of a road that is taken", x.fault(), 0);
        x.back(0);
        e.is("an IMAGE brings none back", x.fault(), 0);
    }

    private void rule() {
        e.sentence(6, "What holds: 0 LEAST, 1 MOST, 2 USUAL, 3 points for a minute, 4 doubt, 5 unread, 6 colour, 7 off, 8 joined, 9 the CLOCK.");
        HalfNumber x = taken("minutes 1 9 5 2; doubt 3; unread 4; colour 6; off 7; joined 8; early 10;", 7);
        int[] told = {1, 9, 5, 2, 3, 4, 6, 7, 8, -10};
        for (int what = 0; what < 10; what++) e.is("rule(" + what + ")", x.rule(what), told[what]);
        x.setClock(99);
        e.is("the CLOCK that is set", x.rule(9), 99);
    }

    private void ruleBad() {
        e.sentence(6, "BAD -1000.");
        e.refusedBy("rule()", Made::some, Edges.outside(0, 9), HalfNumber::rule, -1000);
    }

    private void mixed() {
        e.sentence(7, "Points of mixed: LETTER x at IN, y at OUT; NONE: it is not told.");
        HalfNumber x = taken("mixed c d 0; mixed h a 50;", 2);
        for (int a = 0; a < 8; a++) {
            for (int b = 0; b < 8; b++) {
                if (a != b) e.is("mixed(" + a + ", " + b + ")", x.mixed(a, b), a == 2 && b == 3 ? 0 : a == 7 && b == 0 ? 50 : NONE);
            }
        }
    }

    private void mixedBad() {
        e.sentence(7, "BAD: also x, y alike.");
        for (int k = 0; k < 8; k++) {
            int letter = k;
            e.refused("mixed() of " + k + " twice", Made::some, x -> x.mixed(letter, letter), BAD);
        }
        e.refusedBy("mixed() x", Made::some, Edges.outside(0, 7), (x, v) -> x.mixed(v, 0), BAD);
        e.refusedBy("mixed() y", Made::some, Edges.outside(0, 7), (x, v) -> x.mixed(0, v), BAD);
        e.is("no LETTERS, though alike", new HalfNumber().mixed(8, 8), BAD);
    }

    private void setClock() {
        e.sentence(8, "The CLOCK becomes v (-99 to 99): what it was.");
        HalfNumber x = new HalfNumber();
        e.is("99", x.setClock(99), 0);
        e.is("-99", x.setClock(-99), 99);
        e.is("it is -99", x.rule(9), -99);
        e.is("0", x.setClock(0), -99);
        e.is("it is 0", x.rule(9), 0);
        Due.road(x, "late 7;");
        e.is("what a road told", x.setClock(7), 7);
    }

    private void setClockBad() {
        e.sentence(8, "BAD -1000.");
        e.refusedBy("setClock()", Made::some, Edges.outside(-99, 99), HalfNumber::setClock, -1000);
    }
}
