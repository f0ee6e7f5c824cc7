import java.util.Arrays;

/** Times, clocks, who passed whom, what was read as what, places that are enough, cars that went round; promises 28 to 36. */
final class EdgesOfTimes {
    private static final int BAD = Edges.BAD, STATE = Edges.STATE, NONE = Edges.NONE;
    private static final int TERMS = Edges.TERMS;
    private static final int BAD_TIME = -10000, NO_TIME = -10004, BAD_CLOCK = -1000;
    private static final String[] TEN = {"aaaa", "bbbb", "cccc", "dddd", "eeee", "ffff", "gggg", "hhhh", "aabb", "bbaa"};
    private final Edges e;

    EdgesOfTimes(Edges e) {
        this.e = e;
    }

    void all() {
        passedTerm();
        enoughTerm();
        roundTerm();
        times();
        timesOfSure();
        timesRefused();
        clock();
        clockBad();
        passed();
        passedBad();
        reads();
        readsBad();
        blame();
        blameRefused();
        learn();
        learnRefused();
        enough();
        enoughRefused();
        round();
        roundBad();
        cars();
        carsBad();
    }

    // ---- what the tests of this part share

    /** Lines of plates that are all unlike: each may be with its own alone. */
    private static HalfNumber apart(String road, int[] in, int[] out) {
        return Made.lines(road, Arrays.copyOf(TEN, in.length), in, Arrays.copyOf(TEN, out.length), out);
    }

    /** The same plates at both ends, all of them at the same minute. */
    private static HalfNumber plates(String... plates) {
        int n = plates.length;
        int[] out = new int[n];
        Arrays.fill(out, 30);
        return Made.lines("", plates, new int[n], plates, out);
    }

    private static HalfNumber ofOneEnd(int end, String... plates) {
        HalfNumber x = new HalfNumber();
        for (String plate : plates) x.line(end, 0, Due.plate(plate), 0);
        return x;
    }

    private void timesAre(String what, HalfNumber x, int... due) {
        for (int k = 0; k < 7; k++) e.is("times(" + k + ") of " + what, x.times(k), due[k]);
    }

    private void passedIs(String what, HalfNumber x, int... due) {
        for (int k = 0; k < 3; k++) e.is("passed(" + k + ") of " + what, x.passed(k), due[k]);
    }

    private void enoughIs(String what, HalfNumber x, int fewest, int places) {
        e.is("enough(0) of " + what, x.enough(0), fewest);
        e.is("enough(1) of " + what, x.enough(1), places);
    }

    // ---- Terms

    private void passedTerm() {
        e.sentence(TERMS, "PASSED: a PAIR of THE FIRST PASSED another one, if it is later at IN and earlier at OUT (minutes alone, strictly).");
        passedIs("one minute later, one earlier", apart("", new int[] {0, 1}, new int[] {31, 30}), 1, 1, 1);
        passedIs("the same minute at IN", apart("", new int[] {0, 0}, new int[] {31, 30}), 0, 0, NONE);
        passedIs("the same minute at OUT", apart("", new int[] {0, 1}, new int[] {31, 31}), 0, 0, NONE);
        passedIs("later at both", apart("", new int[] {0, 1}, new int[] {30, 31}), 0, 0, NONE);
        passedIs("numbers do not matter", apart("", new int[] {1, 0}, new int[] {30, 31}), 1, 1, 0);
        passedIs("the CLOCK does not matter", apart("late 9;", new int[] {0, 1}, new int[] {31, 30}), 1, 1, 1);
        passedIs("one that is in no PAIR", apart("off 0; joined 0;", new int[] {0, 1}, new int[] {31, 30}), 0, 0, NONE);
    }

    private void enoughTerm() {
        e.sentence(TERMS, "ENOUGH: a set of PLACES by which alone (others are as if they were the same LETTERS, read) there is just one BEST PAIRING, and it is THE FIRST by all.");
        // by all PLACES one point each: two are BEST; by none of them LINE 0 alone is, and that is THE FIRST by all
        HalfNumber tie = Made.lines("", new String[] {"aaaa"}, new int[] {0}, new String[] {"aaaA", "aaaa"}, new int[] {30, 31});
        e.is("by all PLACES so many are BEST", tie.best(1), 2);
        enoughIs("a set that is ENOUGH where all are not", tie, 0, 0);
        // the other way round: by none of them LINE 1 alone is BEST, but THE FIRST by all is LINE 0
        HalfNumber turned = Made.lines("", new String[] {"aaaa"}, new int[] {0}, new String[] {"aaaa", "aaaA"}, new int[] {31, 30});
        e.is("by all PLACES so many are BEST again", turned.best(1), 2);
        enoughIs("a set that has just one, not THE FIRST", turned, NONE, NONE);
        HalfNumber other = Made.lines("", new String[] {"aaaa"}, new int[] {0}, new String[] {"aaba", "aaaa"}, new int[] {30, 31});
        enoughIs("just one by no PLACE, but not THE FIRST: PLACE 2 is needed", other, 1, 4);
        HalfNumber apart = Made.lines("", new String[] {"aaaa"}, new int[] {0}, new String[] {"aaab"}, new int[] {30});
        enoughIs("THE FIRST has no PAIR: PLACE 3 is needed", apart, 1, 8);
        HalfNumber unread = Made.lines("unread 50;", new String[] {"...."}, new int[] {0}, new String[] {"...."}, new int[] {30});
        e.is("not read at all: no PAIR is BEST", unread.first(0), NONE);
        enoughIs("others are as if they were read: all that is needed is one PLACE", unread, 1, 1);
        HalfNumber doubt = Made.lines("doubt 50; off 0; joined 1;", new String[] {"aaaa"}, new int[] {0}, new String[] {"aAaa"}, new int[] {30});
        e.is("a DOUBT for as much as none", doubt.best(1), 2);
        enoughIs("others have no DOUBT", doubt, 0, 0);
    }

    private void roundTerm() {
        e.sentence(TERMS, "ROUND: two LINES of one END may be one car, if at each PLACE both are the same LETTER, or there is a DOUBT on one or both, or one is not read, and their COLOURS are not unlike.");
        for (int place = 0; place < 4; place++) {
            for (int s = 0; s <= 16; s++) {
                HalfNumber x = ofOneEnd(1, "aaaa", "aaaa");
                x.sign(1, 0, place, s);
                for (int t = 0; t <= 16; t++) {
                    x.sign(1, 1, place, t);
                    boolean may = s == t || s == 0 || t == 0 || s > 8 || t > 8;
                    e.is("SIGNS " + s + " and " + t + " at PLACE " + place, x.round(1, 0, 1), may ? 1 : 0);
                }
            }
        }
        for (int a = 0; a <= 6; a++) {
            for (int b = 0; b <= 6; b++) {
                HalfNumber x = new HalfNumber();
                x.line(0, 0, Due.plate("abcd"), a);
                x.line(0, 999, Due.plate("abcd"), b);
                // a LINE whose COLOUR is 0 has none that could be unlike
                e.is("COLOURS " + a + " and " + b, x.round(0, 0, 1), a == 0 || b == 0 || a == b ? 1 : 0);
            }
        }
        HalfNumber y = ofOneEnd(0, "aaaa", "baaa");
        Due.road(y, "mixed a b 0; mixed b a 0; colour 0;");
        e.is("mixed does not matter", y.round(0, 0, 1), 0);
    }

    // ---- promise 28

    private void times() {
        e.sentence(28, "Of PAIRS of THE FIRST: 0 how many, 1 the least that they TOOK, 2 the most, 3, 4 the mean (numerator, denominator);");
        timesAre("one that TOOK nothing", apart("minutes 0 500 0 0;", new int[] {7}, new int[] {7}), 1, 0, 0, 0, 1, 0, 1);
        timesAre("one that TOOK the most", apart("minutes 0 500 0 0;", new int[] {499}, new int[] {999}), 1, 500, 500, 500, 1, 500, 1);
        timesAre("both", apart("minutes 0 500 0 0;", new int[] {0, 0}, new int[] {500, 0}), 2, 0, 500, 250, 1, 250, 1);
        timesAre("three", apart("", new int[] {0, 1, 2}, new int[] {32, 31, 32}), 3, 30, 32, 92, 3, 92, 3);
        timesAre("one by the CLOCK", apart("late 5;", new int[] {0}, new int[] {36}), 1, 31, 31, 31, 1, 31, 1);
        timesAre("one of two", apart("", new int[] {0, 0}, new int[] {31, 61}), 1, 31, 31, 31, 1, 31, 1);
        int[] minutes = {30, 31, 32, 33, 34, 35, 36, 37, 38, 39};
        timesAre("ten", apart("", new int[10], minutes), 10, 30, 39, 69, 2, 69, 2);
    }

    private void timesOfSure() {
        e.sentence(28, "5, 6 the mean of those that are in all BEST PAIRINGS.");
        HalfNumber x = Made.lines("", new String[] {"aaaa", "bbbb"}, new int[] {0, 0}, new String[] {"aaaa", "bbbb", "bbbb"}, new int[] {31, 34, 34});
        timesAre("one of two is in all", x, 2, 31, 34, 65, 2, 31, 1);
        HalfNumber y = Made.alike("minutes 0 500 30 1; off 6; joined 4;", 1, 1, 39);
        timesAre("one point less than none", y, 1, 39, 39, 39, 1, 39, 1);
        HalfNumber z = Made.alike("minutes 0 500 30 1; off 6; joined 4;", 1, 1, 40);
        timesAre("as many points as none", z, 1, 40, 40, 40, 1, NO_TIME, NO_TIME);
    }

    private void timesRefused() {
        e.sentence(28, "BAD -10000; NONE -10004: no such PAIRS (1 to 6).");
        e.refusedBy("times()", Made::some, Edges.outside(0, 6), HalfNumber::times, BAD_TIME);
        e.refusedBy("times() of no LINES", HalfNumber::new, Edges.outside(0, 6), HalfNumber::times, BAD_TIME);
        timesAre("no LINES", new HalfNumber(), 0, NO_TIME, NO_TIME, NO_TIME, NO_TIME, NO_TIME, NO_TIME);
        timesAre("LINES that are too late", Made.alike("", 10, 10, 61), 0, NO_TIME, NO_TIME, NO_TIME, NO_TIME, NO_TIME, NO_TIME);
        timesAre("none in all BEST ones", Made.alike("", 2, 2, 30), 2, 30, 30, 30, 1, NO_TIME, NO_TIME);
        for (int k = 1; k <= 6; k++) {
            int what = k;
            e.refused("times(" + k + ") of no LINES", HalfNumber::new, x -> x.times(what), NO_TIME);
        }
    }

    // ---- promise 29

    private void clock() {
        e.sentence(29, "Of CLOCKS from -30 to 30 that with the least TOTAL of BEST, of several the nearest to the CLOCK, then the lesser one (what 0); that TOTAL (1).");
        int[] took = {59, 60, 61, 62, 1, 0, -1, -2};
        int[] clocks = {29, 30, 30, 30, -29, -30, -30, -30};
        int[] totals = {0, 0, 1, 2, 0, 0, 1, 2};
        for (int k = 0; k < took.length; k++) {
            for (int now : new int[] {0, 99, -99}) {
                HalfNumber x = Made.lines("minutes 0 500 30 1;", new String[] {"abcd"}, new int[] {400}, new String[] {"abcd"}, new int[] {400 + took[k]});
                x.setClock(now);
                e.is("what is off by " + (took[k] - 30) + ", the CLOCK " + now, x.clock(0), clocks[k]);
                e.is("its TOTAL", x.clock(1), totals[k]);
                e.is("the CLOCK stays", x.rule(9), now);
            }
        }
        int[] nows = {0, 29, 30, 31, 99, -29, -30, -31, -99};
        int[] nearest = {0, 29, 30, 30, 30, -29, -30, -30, -30};
        for (int k = 0; k < nows.length; k++) {
            HalfNumber x = new HalfNumber();
            x.setClock(nows[k]);
            e.is("all alike, the nearest to " + nows[k], x.clock(0), nearest[k]);
            e.is("of no LINES", x.clock(1), 0);
            x.line(0, 400, Due.plate("abcd"), 0);
            x.line(1, 300, Due.plate("abcd"), 0);
            e.is("too early by all CLOCKS, the nearest to " + nows[k], x.clock(0), nearest[k]);
            e.is("of no PAIR", x.clock(1), 24);
        }
        HalfNumber two = apart("minutes 30 30 30 1;", new int[] {0, 0}, new int[] {20, 40});
        int[] here = {0, 1, -1, 99, -99};
        int[] due = {-10, 10, -10, 10, -10};
        for (int k = 0; k < here.length; k++) {
            two.setClock(here[k]);
            e.is("-10 or 10, the CLOCK " + here[k], two.clock(0), due[k]);
            e.is("the TOTAL of both", two.clock(1), 24);
        }
    }

    private void clockBad() {
        e.sentence(29, "BAD -1000.");
        e.refusedBy("clock()", Made::some, Edges.outside(0, 1), HalfNumber::clock, BAD_CLOCK);
        e.refusedBy("clock() of no LINES", HalfNumber::new, Edges.outside(0, 1), HalfNumber::clock, BAD_CLOCK);
    }

    // ---- promise 30

    private void passed() {
        e.sentence(30, "PASSED: how many times one PASSED another (what 0), the fewest PAIRS without which nobody PASSED (1), the LINE of IN that PASSED most others, of several the least (2; NONE).");
        passedIs("no LINES", new HalfNumber(), 0, 0, NONE);
        passedIs("one PAIR", apart("", new int[] {0}, new int[] {30}), 0, 0, NONE);
        int[] down = {9, 8, 7, 6, 5, 4, 3, 2, 1, 0};
        int[] up = {30, 31, 32, 33, 34, 35, 36, 37, 38, 39};
        int[] upward = {0, 1, 2, 3, 4, 5, 6, 7, 8, 9};
        passedIs("ten, each all behind it", apart("", down, up), 45, 9, 0);
        passedIs("ten in their order", apart("", upward, up), 0, 0, NONE);
        int[] lastFirst = {31, 32, 33, 34, 35, 36, 37, 38, 39, 30};
        passedIs("ten, the last one all others", apart("", upward, lastFirst), 9, 1, 9);
        passedIs("two that PASSED one each", apart("", new int[] {0, 5, 6}, new int[] {40, 36, 37}), 2, 1, 1);
        passedIs("one that PASSED two, one that PASSED one", apart("", new int[] {0, 5, 6}, new int[] {40, 39, 38}), 3, 2, 2);
        passedIs("one of two in no PAIR", apart("", new int[] {0, 1, 2}, new int[] {61, 31, 30}), 1, 1, 2);
        passedIs("the later one of two in no PAIR", apart("", new int[] {0, 1, 2}, new int[] {31, 30, 63}), 1, 1, 1);
        passedIs("two and two", apart("", new int[] {0, 1, 10, 11}, new int[] {31, 30, 41, 40}), 2, 2, 1);
    }

    private void passedBad() {
        e.sentence(30, "BAD.");
        e.refusedBy("passed()", Made::some, Edges.outside(0, 2), HalfNumber::passed, BAD);
        e.refusedBy("passed() of no LINES", HalfNumber::new, Edges.outside(0, 2), HalfNumber::passed, BAD);
    }

    // ---- promises 31 to 33

    private void reads() {
        e.sentence(31, "At how many PLACES of PAIRS of THE FIRST LETTER x at IN is y at OUT (both read, with DOUBT or not).");
        e.is("of no LINES", new HalfNumber().reads(0, 0), 0);
        HalfNumber ten = Made.alike("", 10, 10, 30);
        e.is("all PLACES of ten", ten.reads(0, 0), 40);
        e.is("another LETTER", ten.reads(0, 1), 0);
        e.is("the other way", ten.reads(1, 0), 0);
        e.is("ten in no PAIR", Made.alike("", 10, 10, 61).reads(0, 0), 0);
        HalfNumber x = Made.pair("mixed a h 0;", "aAaA", 0, "hhHH", 0);
        e.is("with DOUBT or not", x.reads(0, 7), 4);
        e.is("the other way with DOUBT", x.reads(7, 0), 0);
        HalfNumber y = Made.pair("", "a.aH", 0, "aa.h", 0);
        e.is("not read at one END", y.reads(0, 0), 1);
        e.is("the last LETTER", y.reads(7, 7), 1);
        e.is("of what is not read nothing", y.reads(0, 7), 0);
    }

    private void readsBad() {
        e.sentence(31, "BAD.");
        e.refusedBy("x", Made::some, Edges.outside(0, 7), (x, v) -> x.reads(v, 0), BAD);
        e.refusedBy("y", Made::some, Edges.outside(0, 7), (x, v) -> x.reads(0, v), BAD);
        e.refused("both, alike", HalfNumber::new, x -> x.reads(8, 8), BAD);
    }

    private void blameIs(String what, HalfNumber x, int... due) {
        for (int k = 0; k < 3; k++) e.is("blame(" + k + ") of " + what, x.blame(k), due[k]);
    }

    private void blame() {
        e.sentence(32, "The unlike LETTERS that are so most often in THE FIRST: 0 that at IN, 1 that at OUT (of several the least, by IN, then OUT), 2 how often.");
        blameIs("h as g, once", Made.pair("", "aaaH", 0, "aaag", 0), 7, 6, 1);
        blameIs("a as b, all PLACES", Made.pair("mixed a b 0;", "aaaa", 0, "bbbb", 0), 0, 1, 4);
        blameIs("twice ahead of once", Made.pair("doubt 1;", "AHHa", 0, "bgga", 0), 7, 6, 2);
        blameIs("once and once: the least at IN", Made.pair("doubt 1;", "BAcc", 0, "ahcc", 0), 0, 7, 1);
        blameIs("once and once: then the least at OUT", Made.pair("doubt 1;", "AAcc", 0, "hbcc", 0), 0, 1, 1);
        blameIs("like LETTERS do not count", Made.pair("doubt 1;", "aaaB", 0, "aaac", 0), 1, 2, 1);
        HalfNumber ten = Made.alike("mixed h a 0;", 10, 10, 30);
        for (int i = 0; i < 10; i++) for (int p = 0; p < 4; p++) ten.sign(0, i, p, 8);
        blameIs("ten and ten", ten, 7, 0, 40);
    }

    private void blameRefused() {
        e.sentence(32, "BAD; NONE: none are.");
        e.refusedBy("blame()", Made::some, Edges.outside(0, 2), HalfNumber::blame, BAD);
        e.refusedBy("blame(), none are", HalfNumber::new, Edges.outside(0, 2), HalfNumber::blame, BAD);
        blameIs("no LINES", new HalfNumber(), NONE, NONE, NONE);
        blameIs("like LETTERS", Made.alike("", 10, 10, 30), NONE, NONE, NONE);
        blameIs("what is not read", Made.pair("", "a..b", 0, ".ab.", 0), NONE, NONE, NONE);
        blameIs("no PAIR in THE FIRST", Made.pair("off 0; joined 0;", "Aaaa", 0, "baaa", 0), NONE, NONE, NONE);
    }

    private void learn() {
        e.sentence(33, "What is read as what most often (as blame() tells) is mixed from now on, for so many points (0 to 50): what it was (NONE: not told).");
        HalfNumber x = Made.pair("", "abcD", 0, "abch", 0);
        e.is("0 points", x.learn(0), NONE);
        e.is("are told", x.mixed(3, 7), 0);
        e.is("in that order alone", x.mixed(7, 3), NONE);
        e.is("from now on", x.cost(0, 0), 0);
        e.is("50 points", x.learn(50), 0);
        e.is("are told now", x.mixed(3, 7), 50);
        e.is("doubt is less", x.cost(0, 0), 4);
        e.is("3 points", x.learn(3), 50);
        e.is("cost", x.cost(0, 0), 3);
        x.keep(0);
        x.road();
        e.is("until the next road", x.mixed(3, 7), NONE);
        x.back(0);
        e.is("an IMAGE has it", x.mixed(3, 7), 3);
        HalfNumber least = Made.pair("doubt 1;", "BAcc", 0, "ahcc", 0);
        e.is("of several the least", least.learn(9), NONE);
        e.is("a as h", least.mixed(0, 7), 9);
        e.is("not b as a", least.mixed(1, 0), NONE);
    }

    private void learnRefused() {
        e.sentence(33, "BAD; STATE: there is none.");
        e.refusedBy("points", () -> Made.pair("", "abcD", 0, "abch", 0), Edges.outside(0, 50), HalfNumber::learn, BAD);
        e.refusedBy("points, BAD ahead of STATE", HalfNumber::new, Edges.outside(0, 50), HalfNumber::learn, BAD);
        e.refusedBy("there is none", HalfNumber::new, new int[] {0, 50}, HalfNumber::learn, STATE);
        e.refused("like LETTERS alone", () -> Made.alike("", 2, 2, 30), x -> x.learn(5), STATE);
        e.refused("no PAIR in THE FIRST", () -> Made.pair("off 0; joined 0;", "Aaaa", 0, "baaa", 0), x -> x.learn(5), STATE);
    }

    // ---- promise 34

    private void enough() {
        e.sentence(34, "ENOUGH: the fewest PLACES (what 0), these (1, bits; of several sets the least).");
        enoughIs("no LINES", new HalfNumber(), 0, 0);
        enoughIs("one PAIR", plates("abcd"), 0, 0);
        enoughIs("one END alone", Made.alike("", 3, 0, 0), 0, 0);
        enoughIs("PLACE 0", plates("aaaa", "baaa"), 1, 1);
        enoughIs("PLACE 1", plates("aaaa", "abaa"), 1, 2);
        enoughIs("PLACE 2", plates("aaaa", "aaba"), 1, 4);
        enoughIs("PLACE 3", plates("aaaa", "aaab"), 1, 8);
        enoughIs("any PLACE: the least", plates("aaaa", "bbbb"), 1, 1);
        enoughIs("PLACES 0 or 1 with 2 or 3: the least", plates("aaaa", "bbaa", "aabb", "bbbb"), 2, 5);
        enoughIs("PLACES 2 and 3", plates("aaaa", "aaab", "aaba"), 2, 12);
        enoughIs("PLACE 2, though PLACES 0 and 1 are a lesser set", plates("aaaa", "abba", "baca", "bbda"), 1, 4);
        enoughIs("PLACES 0, 1 and 2", plates("aaaa", "baaa", "abaa", "aaba"), 3, 7);
        enoughIs("PLACES 1, 2 and 3", plates("aaaa", "abaa", "aaba", "aaab"), 3, 14);
        enoughIs("all PLACES", plates("aaaa", "baaa", "abaa", "aaba", "aaab"), 4, 15);
    }

    private void enoughRefused() {
        e.sentence(34, "BAD; NONE: not even all.");
        e.refusedBy("enough()", Made::some, Edges.outside(0, 1), HalfNumber::enough, BAD);
        e.refusedBy("enough(), not even all", () -> Made.alike("", 2, 2, 30), Edges.outside(0, 1), HalfNumber::enough, BAD);
        enoughIs("two and two that are alike", Made.alike("", 2, 2, 30), NONE, NONE);
        enoughIs("ten and ten that are alike", Made.alike("", 10, 10, 30), NONE, NONE);
        enoughIs("as many points as none", Made.alike("minutes 0 500 30 1; off 6; joined 4;", 1, 1, 40), NONE, NONE);
        enoughIs("one point less than none", Made.alike("minutes 0 500 30 1; off 6; joined 4;", 1, 1, 39), 0, 0);
        enoughIs("one point more than none", Made.alike("minutes 0 500 30 1; off 6; joined 4;", 1, 1, 41), 0, 0);
        enoughIs("five, two of them alike", plates("aaaa", "baaa", "abaa", "aaba", "aaba"), NONE, NONE);
    }

    // ---- promises 35 and 36

    private void round() {
        e.sentence(35, "Whether two LINES of one END may be one car that went ROUND (1, 0).");
        for (int end = 0; end < 2; end++) {
            HalfNumber x = ofOneEnd(end, TEN);
            e.is("unlike ones", x.round(end, 0, 9), 0);
            x.sign(end, 9, 0, 0);
            x.sign(end, 9, 1, 9);
            e.is("one not read, one with DOUBT", x.round(end, 0, 9), 1);
            e.is("the other way", x.round(end, 9, 0), 1);
        }
        HalfNumber late = new HalfNumber();
        late.line(0, 0, Due.plate("abcd"), 1);
        late.line(0, 999, Due.plate("abcd"), 1);
        e.is("minutes do not matter", late.round(0, 0, 1), 1);
    }

    private void roundBad() {
        e.sentence(35, "BAD: also one and the same.");
        for (int k = 0; k < 4; k++) {
            int i = k;
            e.refused("LINE " + k + " twice", Made::some, x -> x.round(0, i, i), BAD);
        }
        e.refusedBy("an END", Made::some, Edges.outside(0, 1), (x, v) -> x.round(v, 0, 1), BAD);
        e.refusedBy("LINE a of IN", Made::some, Edges.outside(0, 3), (x, v) -> x.round(0, v, 0), BAD);
        e.refusedBy("LINE b of IN", Made::some, Edges.outside(0, 3), (x, v) -> x.round(0, 0, v), BAD);
        e.refusedBy("LINE a of OUT", Made::some, Edges.outside(0, 2), (x, v) -> x.round(1, v, 0), BAD);
        e.refusedBy("LINE b of OUT", Made::some, Edges.outside(0, 2), (x, v) -> x.round(1, 0, v), BAD);
        e.refused("of no LINES", HalfNumber::new, x -> x.round(0, 0, 1), BAD);
    }

    private void carsAre(String what, HalfNumber x, int end, int most, int fewest) {
        e.is("cars(" + end + ", 0) of " + what, x.cars(end, 0), most);
        e.is("cars(" + end + ", 1) of " + what, x.cars(end, 1), fewest);
    }

    private void cars() {
        e.sentence(36, "Of an END the most cars there can be (what 0: all LINES), the fewest (1: sets of LINES any two of which may be one car, as few as can be).");
        for (int end = 0; end < 2; end++) {
            carsAre("no LINES", new HalfNumber(), end, 0, 0);
            carsAre("one LINE", ofOneEnd(end, "aaaa"), end, 1, 1);
            carsAre("two that may be one", ofOneEnd(end, "aaaa", "AAAA"), end, 2, 1);
            carsAre("two that may not", ofOneEnd(end, "aaaa", "aaab"), end, 2, 2);
            carsAre("ten that may all be one", ofOneEnd(end, "....", "....", "....", "....", "....", "....", "....", "....", "....", "...."), end, 10, 1);
            carsAre("ten that may all not", ofOneEnd(end, TEN), end, 10, 10);
            carsAre("the other END", ofOneEnd(end, TEN), 1 - end, 0, 0);
        }
        HalfNumber changed = ofOneEnd(0, "aaaa", "aaaa", "aaaa");
        carsAre("three that may be one", changed, 0, 3, 1);
        changed.sign(0, 2, 0, 8);
        carsAre("the third no longer", changed, 0, 3, 2);
        changed.sign(0, 0, 1, 8);
        carsAre("none of the three", changed, 0, 3, 3);
        carsAre("a chain: the ends may not be one", ofOneEnd(0, "aaaa", "aa..", "aabb"), 0, 3, 2);
        carsAre("one that may be any of two", ofOneEnd(0, "aaaa", "....", "bbbb"), 0, 3, 2);
        carsAre("a ring of five", ofOneEnd(0, "..cc", "abc.", "...b", "..b.", "b..c"), 0, 5, 3);
        carsAre("five and five", ofOneEnd(0, "aaaa", "bbbb", "cccc", "dddd", "eeee", "aaa.", "bbb.", "ccc.", "ddd.", "eee."), 0, 10, 5);
    }

    private void carsBad() {
        e.sentence(36, "BAD.");
        e.refusedBy("an END", Made::some, Edges.outside(0, 1), (x, v) -> x.cars(v, 0), BAD);
        e.refusedBy("what of IN", Made::some, Edges.outside(0, 1), (x, v) -> x.cars(0, v), BAD);
        e.refusedBy("what of OUT", HalfNumber::new, Edges.outside(0, 1), (x, v) -> x.cars(1, v), BAD);
    }
}
