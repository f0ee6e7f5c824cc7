/** What the document says ahead of all: answers, numbers, fractions, letters, signs, lines. */
final class EdgesOfTerms {
    private static final int BAD = Edges.BAD, STATE = Edges.STATE, FULL = Edges.FULL, NONE = Edges.NONE;
    private static final int TERMS = Edges.TERMS;
    private final Edges e;

    EdgesOfTerms(Edges e) {
        this.e = e;
    }

    void all() {
        fiveHundredAndTwelveCalls();
        bad();
        otherAnswers();
        theFirstThatFits();
        refusedChangesNothing();
        numbersFromZero();
        fractions();
        letters();
        signs();
        tenLines();
        numberedAsTheyStand();
        minutes();
        plates();
        colours();
    }

    private void fiveHundredAndTwelveCalls() {
        e.sentence(Edges.WHAT_IT_IS, "An object is used for at most 512 calls after it has been made; what later calls answer is free.");
        HalfNumber x = new HalfNumber();
        for (int k = 0; k < 10; k++) {
            x.line(0, 0, 0, 0);
            x.line(1, 30, 0, 0);
        }
        for (int k = 20; k < 511; k++) x.setClock(k % 99);
        e.is("call 512", x.setClock(7), 510 % 99);
        // later answers are free, but there must be one
        int answers = 0;
        for (int k = 0; k < 1000; k++) {
            x.feed(-1);
            x.line(0, 0, 0, 0);
            x.best(k % 4);
            answers++;
        }
        e.is("later calls that answered", answers, 1000);
    }

    private void bad() {
        e.sentence(TERMS, "Answers: BAD -1 (a number is not as told, there is no such LINE, PLACE, LETTER, IMAGE, SHEET)");
        e.is("BAD", HalfNumber.BAD, -1);
        HalfNumber x = Made.some();
        e.is("a number is not as told", x.line(0, 1000, 0, 0), -1);
        e.is("the greatest number as told", x.line(0, 999, 0, 0), 4);
        e.is("there is no such LINE", x.of(1, 3, 0), -1);
        e.is("the last LINE", x.of(1, 2, 0), 44);
        e.is("there is no such PLACE", x.sign(0, 0, 4, 0), -1);
        e.is("the last PLACE", x.sign(0, 0, 3, 4), 4);
        e.is("there is no such LETTER", x.reads(8, 0), -1);
        e.is("the last LETTER", x.reads(7, 7), 4);
        e.is("there is no such IMAGE", x.keep(2), -1);
        e.is("the last IMAGE", x.keep(1), 1);
        e.is("there is no such SHEET", x.lay(4, 0, 0), -1);
        e.is("the last SHEET", x.sheet(3, 0, 0), 1);
    }

    private void otherAnswers() {
        e.sentence(TERMS, "STATE -2 (as told), FULL -3, NONE -4 (there is none)");
        e.is("STATE", HalfNumber.STATE, -2);
        e.is("FULL", HalfNumber.FULL, -3);
        e.is("NONE", HalfNumber.NONE, -4);
        e.is("there is no IMAGE", new HalfNumber().back(0), -2);
        e.is("an END is full", Made.full().line(0, 0, 0, 0), -3);
        e.is("it is not told", new HalfNumber().mixed(0, 1), -4);
    }

    private void theFirstThatFits() {
        e.sentence(TERMS, "the first that fits");
        e.refused("BAD ahead of STATE: back(2)", HalfNumber::new, x -> x.back(2), BAD);
        e.refused("STATE alone: back(1)", HalfNumber::new, x -> x.back(1), STATE);
        e.refused("BAD ahead of STATE: learn(51)", HalfNumber::new, x -> x.learn(51), BAD);
        e.refused("STATE alone: learn(50)", HalfNumber::new, x -> x.learn(50), STATE);
        e.refused("BAD ahead of FULL: line() of COLOUR 7", Made::full, x -> x.line(0, 0, 0, 7), BAD);
        e.refused("FULL alone: line() of COLOUR 6", Made::full, x -> x.line(0, 0, 0, 6), FULL);
        e.refused("BAD ahead of FULL: read() of n 11", Made::full, x -> x.read(1, 1, 0, 11, 0), BAD);
        e.refused("FULL alone: read() of n 1", Made::full, x -> x.read(1, 1, 0, 1, 0), FULL);
        e.refused("BAD ahead of NONE: mixed() of like LETTERS", Made::some, x -> x.mixed(5, 5), BAD);
        e.refused("NONE alone: mixed()", Made::some, x -> x.mixed(5, 6), NONE);
        e.refused("BAD ahead of NONE: cost()", Made::some, x -> x.cost(0, 3), BAD);
        e.refused("NONE alone: cost()", Made::some, x -> x.cost(2, 0), NONE);
        e.refused("BAD ahead of NONE: ifMust()", Made::some, x -> x.ifMust(2, 3, true), BAD);
        e.refused("NONE alone: ifMust()", Made::some, x -> x.ifMust(2, 0, true), NONE);
        e.refused("BAD ahead of NONE: times(7)", HalfNumber::new, x -> x.times(7), -10000);
        e.refused("NONE alone: times(6)", HalfNumber::new, x -> x.times(6), -10004);
        e.refused("BAD ahead of NONE: blame(3)", HalfNumber::new, x -> x.blame(3), BAD);
        e.refused("NONE alone: blame(2)", HalfNumber::new, x -> x.blame(2), NONE);
    }

    private void refusedChangesNothing() {
        e.sentence(TERMS, "what is refused changes nothing (but THE TAPE, as told)");
        e.refused("feed()", () -> Made.withTape(313), x -> x.feed(0), FULL);
        e.refused("end()", Made::some, x -> x.end(9), BAD);
        e.refused("setClock()", Made::some, x -> x.setClock(100), -1000);
        e.refused("line()", Made::some, x -> x.line(0, 0, 83521, 0), BAD);
        e.refused("drop()", Made::some, x -> x.drop(1, 3), BAD);
        e.refused("sign()", Made::some, x -> x.sign(0, 0, 0, 17), BAD);
        e.refused("tell()", Made::some, x -> x.tell(0, 10), BAD);
        e.refused("learn()", Made::some, x -> x.learn(51), BAD);
        e.refused("keep()", Made::some, x -> x.keep(2), BAD);
        e.refused("back()", Made::some, x -> x.back(2), BAD);
        e.refused("sheet()", Made::some, x -> x.sheet(0, 0, -1), -14);
        e.refused("lay()", Made::some, x -> x.lay(0, 3, 7), -12);
        e.refused("read()", Made::full, x -> x.read(1, 1, 0, 1, 0), FULL);
        HalfNumber x = Made.some();
        x.end(6);
        e.is("road() of 'late 7'", x.road(), -16);
        e.is("THE TAPE is empty", x.count(4), 0);
        e.is("the CLOCK is not told", x.rule(9), -3);
        e.is("the mixed stay", x.mixed(2, 3), 0);
    }

    private void numbersFromZero() {
        e.sentence(TERMS, "What is numbered has its numbers from 0 on, as it comes, where nothing else is told.");
        HalfNumber x = new HalfNumber();
        for (int k = 0; k < 10; k++) e.is("LINE of IN", x.line(0, k, k, 0), k);
        e.is("the first LINE of OUT", x.line(1, 7, 0, 0), 0);
        e.is("LINE 0 is the first that came", x.of(0, 0, 0), 0);
        e.is("LINE 9 is the tenth", x.of(0, 9, 0), 9);
        e.is("LINE 10 is none", x.of(0, 10, 0), BAD);
        e.is("IMAGE 0", x.keep(0), 0);
        e.is("SHEET 0", x.sheet(0, 0, 1), 1);
        e.is("CELL 0", x.lay(0, 0, 1), 1);
        e.is("CELL 1 of one", x.lay(0, 1, 1), -12);
    }

    private void fractions() {
        e.sentence(TERMS, "Fractions are in lowest terms, told as two numbers, first the numerator, then the denominator, which is above 0 (0 is 0 by 1).");
        HalfNumber x = Made.lines("", new String[] {"aaaa", "bbbb"}, new int[] {0, 0}, new String[] {"aaaa", "bbbb"}, new int[] {30, 33});
        e.is("SHARE 2 of 4, first the numerator", x.share(0, 0, 0), 1);
        e.is("then the denominator", x.share(0, 0, 1), 2);
        e.is("SHARE 0 of 4 is 0", x.share(0, 1, 0), 0);
        e.is("by 1", x.share(0, 1, 1), 1);
        e.is("the mean of 30 and 33, first the numerator", x.times(3), 63);
        e.is("then the denominator", x.times(4), 2);
        HalfNumber y = Made.lines("", new String[] {"aaaa", "bbbb"}, new int[] {0, 0}, new String[] {"aaaa", "bbbb"}, new int[] {30, 34});
        e.is("the mean of 30 and 34", y.times(3), 32);
        e.is("by 1", y.times(4), 1);
        HalfNumber z = Made.lines("minutes 0 9 0 1;", new String[] {"aaaa", "bbbb"}, new int[] {7, 7}, new String[] {"aaaa", "bbbb"}, new int[] {7, 7});
        e.is("the mean of 0 and 0", z.times(3), 0);
        e.is("is 0 by 1", z.times(4), 1);
        e.is("that of the sure ones too", z.times(5), 0);
        e.is("is 0 by 1 too", z.times(6), 1);
    }

    private void letters() {
        e.sentence(TERMS, "1 LETTERS a to h (0 to 7).");
        HalfNumber x = new HalfNumber();
        e.is("mixed a h, mixed h a", Due.road(x, "mixed a h 1; mixed h a 2;"), 2);
        e.is("a is 0, h is 7", x.mixed(0, 7), 1);
        e.is("h is 7, a is 0", x.mixed(7, 0), 2);
        e.is("there is no 8", x.mixed(0, 8), BAD);
        e.is("there is no -1", x.mixed(-1, 0), BAD);
        e.is("there is no i", Due.road(x, "mixed a i 1;"), -18);
        e.is("that is no LETTER", x.fault(), 3);
    }

    private void signs() {
        e.sentence(TERMS, "A SIGN: 0 not read, 1 to 8 a LETTER read, 9 to 16 a LETTER read with DOUBT.");
        HalfNumber x = Made.pair("doubt 40; unread 3;", "aaaa", 0, "aaaa", 0);
        // against an a that is read: the same letter, unlike, the same with doubt, unlike with doubt
        int[] due = {3, 0, NONE, NONE, NONE, NONE, NONE, NONE, NONE, 1, 40, 40, 40, 40, 40, 40, 40};
        for (int s = 0; s <= 16; s++) {
            x.sign(0, 0, 0, s);
            e.is("COST of SIGN " + s + " with an a", x.cost(0, 0), due[s]);
        }
        for (int s = 1; s <= 16; s++) {
            x.sign(0, 0, 1, s);
            x.sign(1, 0, 1, (s - 1) % 8 + 1);
            x.sign(0, 0, 0, 1);
            e.is("the LETTER of SIGN " + s, x.reads((s - 1) % 8, (s - 1) % 8), (s - 1) % 8 == 0 ? 4 : 1);
        }
        e.is("there is no SIGN 17", x.sign(0, 0, 0, 17), BAD);
        e.is("there is no SIGN -1", x.sign(0, 0, 0, -1), BAD);
    }

    private void tenLines() {
        e.sentence(TERMS, "ENDS 0 (IN), 1 (OUT) have LINES (10 at most each)");
        for (int end = 0; end < 2; end++) {
            HalfNumber x = new HalfNumber();
            for (int k = 0; k < 10; k++) e.is("LINE " + k + " of END " + end, x.line(end, 0, 0, 0), k);
            e.is("an eleventh of END " + end, x.line(end, 0, 0, 0), FULL);
            e.is("END " + end + " has", x.count(end), 10);
            e.is("the other END has room", x.line(1 - end, 0, 0, 0), 0);
            x.drop(end, 4);
            e.is("there is room again", x.line(end, 0, 0, 0), 9);
            e.is("for one", x.line(end, 0, 0, 0), FULL);
        }
        e.refused("END -1", Made::some, x -> x.line(-1, 0, 0, 0), BAD);
        e.refused("END 2", Made::some, x -> x.line(2, 0, 0, 0), BAD);
    }

    private void numberedAsTheyStand() {
        e.sentence(TERMS, "numbered as they stand");
        HalfNumber x = new HalfNumber();
        for (int k = 0; k < 4; k++) x.line(1, 100 + k, 0, 0);
        x.drop(1, 0);
        for (int k = 0; k < 3; k++) e.is("LINE " + k + " when the first is gone", x.of(1, k, 0), 101 + k);
        x.line(1, 7, 0, 0);
        e.is("a new one stands last", x.of(1, 3, 0), 7);
    }

    private void minutes() {
        e.sentence(TERMS, "a minute (0 to 999)");
        HalfNumber x = new HalfNumber();
        e.is("minute 0", x.line(0, 0, 0, 0), 0);
        e.is("minute 999", x.line(0, 999, 0, 0), 1);
        e.is("it is 0", x.of(0, 0, 0), 0);
        e.is("it is 999", x.of(0, 1, 0), 999);
        e.refusedBy("a minute", Made::some, Edges.outside(0, 999), (y, v) -> y.line(0, v, 0, 0), BAD);
    }

    private void plates() {
        e.sentence(TERMS, "a plate: SIGNS at PLACES 0 to 3 (told as four figures to the base 17, PLACE 0 the highest)");
        HalfNumber x = new HalfNumber();
        int[][] plates = {{0, 0, 0, 0, 0}, {16, 0, 0, 0, 16}, {17, 0, 0, 1, 0}, {289, 0, 1, 0, 0}, {4913, 1, 0, 0, 0}, {4912, 0, 16, 16, 16}, {83520, 16, 16, 16, 16}};
        for (int k = 0; k < plates.length; k++) {
            e.is("plate " + plates[k][0], x.line(0, 0, plates[k][0], 0), k);
            for (int p = 0; p < 4; p++) e.is("SIGN at PLACE " + p + " of plate " + plates[k][0], x.of(0, k, 10 + p), plates[k][1 + p]);
            e.is("told as", x.of(0, k, 1), plates[k][0]);
        }
        e.refusedBy("a plate", Made::some, Edges.outside(0, 83520), (y, v) -> y.line(0, 0, v, 0), BAD);
        e.refusedBy("a PLACE", Made::some, Edges.outside(0, 3), (y, v) -> y.sign(0, 0, v, 0), BAD);
    }

    private void colours() {
        e.sentence(TERMS, "a COLOUR (1 to 6; 0: none)");
        HalfNumber x = new HalfNumber();
        for (int colour = 0; colour <= 6; colour++) {
            e.is("COLOUR " + colour, x.line(0, 0, 0, colour), colour);
            e.is("it is", x.of(0, colour, 2), colour);
        }
        e.refusedBy("a COLOUR", Made::some, Edges.outside(0, 6), (y, v) -> y.line(0, 0, 0, v), BAD);
        e.is("none and one cost nothing", Made.pair("", "aaaa", 0, "aaaa", 6).cost(0, 0), 0);
        e.is("one and none cost nothing", Made.pair("", "aaaa", 1, "aaaa", 0).cost(0, 0), 0);
        e.is("1 and 6 are unlike", Made.pair("", "aaaa", 1, "aaaa", 6).cost(0, 0), 5);
        e.is("none may be one car with any", lineOfColours(0, 6).round(0, 0, 1), 1);
        e.is("1 may not with 2", lineOfColours(1, 2).round(0, 0, 1), 0);
    }

    private static HalfNumber lineOfColours(int first, int second) {
        HalfNumber x = new HalfNumber();
        x.line(0, 0, 0, first);
        x.line(0, 0, 0, second);
        return x;
    }
}
