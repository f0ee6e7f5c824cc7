/** What a pair took and costs, pairings and the best of them; promises 13 to 23. */
final class EdgesOfPairs {
    private static final int BAD = Edges.BAD, NONE = Edges.NONE;
    private static final int TERMS = Edges.TERMS;
    private final Edges e;

    EdgesOfPairs(Edges e) {
        this.e = e;
    }

    void all() {
        tookTerm();
        mayBe();
        costOfMinutes();
        costOfUnread();
        costOfSameLetters();
        costOfUnlikeLetters();
        costOfColours();
        pairing();
        total();
        bestOnes();
        theFirst();
        shareTerm();
        ifItMust();
        took();
        tookBad();
        cost();
        costBad();
        why();
        whyBad();
        best();
        bestBad();
        first();
        firstBad();
        sure();
        sureBad();
        share();
        shareBad();
        ifMust();
        ifMustRefused();
        alone();
        aloneBad();
        many();
        manyBad();
        ways();
        waysBad();
    }

    // ---- what the tests of this part share

    private static int costOf(String road, String in, String out) {
        return Made.pair(road, in, 0, out, 0).cost(0, 0);
    }

    private static int costOfTook(String road, int took) {
        HalfNumber x = Made.lines(road, new String[] {"abcd"}, new int[] {400}, new String[] {"abcd"}, new int[] {400 + took});
        return x.cost(0, 0);
    }

    /** One pair; left alone, its two lines cost ten points. */
    private static HalfNumber onePair(int cost) {
        return Made.alike("minutes 0 500 30 1; off 6; joined 4;", 1, 1, 30 + cost);
    }

    private static HalfNumber onePairThatMayNotBe() {
        return Made.pair("off 6; joined 4;", "aaaa", 0, "baaa", 0);
    }

    // ---- Terms, 2

    private void tookTerm() {
        e.sentence(TERMS, "2 TOOK: the minute at OUT less that at IN, less the CLOCK (late above 0, early below).");
        String[] two = {"aaaa", "bbbb"};
        HalfNumber x = Made.lines("", two, new int[] {0, 999}, two, new int[] {0, 999});
        int[] clocks = {0, 1, -1, 99, -99};
        for (int clock : clocks) {
            x.setClock(clock);
            e.is("0 to 0 by " + clock, x.took(0, 0), -clock);
            e.is("0 to 999 by " + clock, x.took(0, 1), 999 - clock);
            e.is("999 to 0 by " + clock, x.took(1, 0), -999 - clock);
            e.is("999 to 999 by " + clock, x.took(1, 1), -clock);
        }
        Due.road(x, "late 99;");
        e.is("late 99", x.took(1, 0), -1098);
        Due.road(x, "early 99;");
        e.is("early 99", x.took(0, 1), 1098);
    }

    private void mayBe() {
        e.sentence(TERMS, "A PAIR, a LINE of IN and one of OUT, MAY be, if it TOOK LEAST to MOST and at each PLACE may be;");
        int[][] bounds = {{10, 60}, {0, 0}, {500, 500}, {0, 500}, {7, 8}};
        for (int[] b : bounds) {
            String road = "minutes " + b[0] + " " + b[1] + " " + b[0] + " 0;";
            e.is(road + " LEAST less 1", costOfTook(road, b[0] - 1), NONE);
            e.is(road + " LEAST", costOfTook(road, b[0]), 0);
            e.is(road + " MOST", costOfTook(road, b[1]), 0);
            e.is(road + " MOST and 1", costOfTook(road, b[1] + 1), NONE);
        }
        e.is("LEAST by a late CLOCK", costOfTook("late 99;", 109), 20);
        e.is("LEAST less 1 by a late CLOCK", costOfTook("late 99;", 108), NONE);
        e.is("MOST by an early CLOCK", costOfTook("early 99;", -39), 30);
        e.is("MOST and 1 by an early CLOCK", costOfTook("early 99;", -38), NONE);
        String[] unlike = {"hbcd", "ahcd", "abhd", "abch"};
        for (int p = 0; p < 4; p++) e.is("PLACE " + p + " may not be", costOf("", "abcd", unlike[p]), NONE);
        e.is("each PLACE may be", costOf("", "abcd", "abcd"), 0);
    }

    private void costOfMinutes() {
        e.sentence(TERMS, "its COST is points summed: of the minutes by which it TOOK more or less than USUAL;");
        String road = "minutes 0 500 250 9;";
        e.is("USUAL", costOfTook(road, 250), 0);
        e.is("one less", costOfTook(road, 249), 9);
        e.is("one more", costOfTook(road, 251), 9);
        e.is("LEAST", costOfTook(road, 0), 2250);
        e.is("MOST", costOfTook(road, 500), 2250);
        e.is("the most minutes more", costOfTook("minutes 0 500 0 9;", 500), 4500);
        e.is("the most minutes less", costOfTook("minutes 0 500 500 9;", 0), 4500);
        e.is("no points for a minute", costOfTook("minutes 0 500 0 0;", 500), 0);
    }

    private void costOfUnread() {
        e.sentence(TERMS, "at each PLACE: one or both not read: unread;");
        e.is("one at IN", costOf("", "abc.", "abcd"), 2);
        e.is("one at OUT", costOf("", "abcd", ".bcd"), 2);
        e.is("both", costOf("", "a.cd", "a.cd"), 2);
        e.is("one, the other with DOUBT", costOf("", "ab.d", "abCd"), 2);
        e.is("two PLACES", costOf("", "ab.d", "abc."), 4);
        e.is("all PLACES", costOf("unread 50;", "....", "...."), 200);
        e.is("none of them costs", costOf("unread 0;", "....", "HHHH"), 0);
    }

    private void costOfSameLetters() {
        e.sentence(TERMS, "the same LETTER: 0, with a DOUBT on one or both 1;");
        for (char c = 'a'; c <= 'h'; c++) {
            String read = c + "aaa";
            String doubtful = Character.toUpperCase(c) + "aaa";
            e.is(c + " read", costOf("", read, read), 0);
            e.is(c + " with DOUBT at IN", costOf("", doubtful, read), 1);
            e.is(c + " with DOUBT at OUT", costOf("", read, doubtful), 1);
            e.is(c + " with DOUBT at both", costOf("", doubtful, doubtful), 1);
        }
        e.is("at all PLACES", costOf("", "ABCD", "abcd"), 4);
        e.is("doubt 0 is not asked", costOf("doubt 0;", "Abcd", "abcd"), 1);
        e.is("doubt 50 is not asked", costOf("doubt 50;", "Abcd", "abcd"), 1);
    }

    private void costOfUnlikeLetters() {
        e.sentence(TERMS, "unlike LETTERS: mixed of them in that order, if it is told, or doubt, if there is a DOUBT on one or both, the less of what there is (else it MAY not be);");
        e.is("nothing told", costOf("", "aaaa", "baaa"), NONE);
        e.is("mixed 0", costOf("mixed a b 0;", "aaaa", "baaa"), 0);
        e.is("mixed 50", costOf("mixed a b 50;", "aaaa", "baaa"), 50);
        e.is("the other order", costOf("mixed b a 0;", "aaaa", "baaa"), NONE);
        e.is("LETTERS beside", costOf("mixed a c 0; mixed c b 0;", "aaaa", "baaa"), NONE);
        e.is("mixed h a", costOf("mixed h a 3;", "aaah", "aaaa"), 3);
        e.is("DOUBT at IN", costOf("", "Aaaa", "baaa"), 4);
        e.is("DOUBT at OUT", costOf("", "aaaa", "Baaa"), 4);
        e.is("DOUBT at both", costOf("", "Aaaa", "Baaa"), 4);
        e.is("doubt 0", costOf("doubt 0;", "Aaaa", "baaa"), 0);
        e.is("doubt 50", costOf("doubt 50;", "aaaa", "Baaa"), 50);
        e.is("mixed is one less", costOf("mixed a b 5; doubt 6;", "Aaaa", "baaa"), 5);
        e.is("both alike", costOf("mixed a b 6; doubt 6;", "Aaaa", "baaa"), 6);
        e.is("doubt is one less", costOf("mixed a b 7; doubt 6;", "Aaaa", "baaa"), 6);
        e.is("no DOUBT: doubt is not asked", costOf("mixed a b 7; doubt 6;", "aaaa", "baaa"), 7);
        e.is("the other order with DOUBT", costOf("mixed b a 0; doubt 6;", "Aaaa", "baaa"), 6);
        e.is("at all PLACES", costOf("doubt 50;", "AAAA", "bbbb"), 200);
        e.is("DOUBT at another PLACE does not help", costOf("", "aAaa", "baaa"), NONE);
    }

    private void costOfColours() {
        e.sentence(TERMS, "both have COLOURS, unlike ones: colour.");
        for (int a = 0; a <= 6; a++) {
            for (int b = 0; b <= 6; b++) {
                boolean unlike = a != 0 && b != 0 && a != b;
                e.is("COLOURS " + a + " and " + b, Made.pair("", "abcd", a, "abcd", b).cost(0, 0), unlike ? 5 : 0);
            }
        }
        e.is("colour 50", Made.pair("colour 50;", "abcd", 1, "abcd", 2).cost(0, 0), 50);
        e.is("colour 0", Made.pair("colour 0;", "abcd", 1, "abcd", 2).cost(0, 0), 0);
    }

    private void pairing() {
        e.sentence(TERMS, "A PAIRING: PAIRS that MAY be, no LINE in two of them.");
        e.is("of no LINES there is one, without PAIRS", new HalfNumber().best(2), 1);
        e.is("of one END alone", Made.alike("", 3, 0, 30).best(2), 1);
        e.is("of the other END alone", Made.alike("", 0, 3, 30).best(2), 1);
        e.is("of a PAIR that MAY be", onePair(0).best(2), 2);
        e.is("of a PAIR that MAY not be", onePairThatMayNotBe().best(2), 1);
        e.is("of a LINE of IN and two of OUT", Made.alike("", 1, 2, 30).best(2), 3);
        e.is("of two LINES of IN and one of OUT", Made.alike("", 2, 1, 30).best(2), 3);
        e.is("of two and two", Made.alike("", 2, 2, 30).best(2), 7);
        e.is("of ten and one", Made.alike("", 10, 1, 30).best(2), 11);
        e.is("of ten and ten", Made.alike("", 10, 10, 30).best(2), 234662231);
    }

    private void total() {
        e.sentence(TERMS, "TOTAL: their COSTS, off for each LINE of IN without, joined for each of OUT.");
        HalfNumber x = Made.alike("off 7; joined 30;", 3, 2, 32);
        int[] pairs = {NONE, 0, 1};
        int[] due = {81, 2 + 14 + 30, 4 + 7};
        for (int n = 0; n < 3; n++) {
            if (n > 0) x.tell(n - 1, pairs[n]);
            e.is("of " + n + " PAIRS", x.judge(2), due[n]);
        }
        e.is("of no LINES", new HalfNumber().best(0), 0);
        e.is("of ten LINES of IN", Made.alike("off 99;", 10, 0, 0).best(0), 990);
        e.is("of ten LINES of OUT", Made.alike("joined 99;", 0, 10, 0).best(0), 990);
        e.is("of points 0", Made.alike("off 0; joined 0;", 10, 10, 0).best(3), 0);
        e.is("of all points", Made.alike("off 99; joined 99;", 10, 10, 0).best(3), 1980);
    }

    private void bestOnes() {
        e.sentence(TERMS, "BEST ones: of the least TOTAL.");
        e.is("a PAIR of one point less", onePair(9).best(0), 9);
        e.is("is in the BEST one", onePair(9).best(1), 1);
        e.is("a PAIR of as many points", onePair(10).best(0), 10);
        e.is("both are BEST", onePair(10).best(1), 2);
        e.is("a PAIR of one point more", onePair(11).best(0), 10);
        e.is("no PAIR is BEST", onePair(11).best(1), 1);
    }

    private void theFirst() {
        e.sentence(TERMS, "THE FIRST of them: LINE 0 of IN has the least LINE of OUT that it can have (none: after all), then LINE 1, and so on.");
        e.is("none: after all", onePair(10).first(0), 0);
        e.is("none, if it is better", onePair(11).first(0), NONE);
        HalfNumber ten = Made.alike("", 10, 10, 30);
        for (int i = 0; i < 10; i++) e.is("of ten, LINE " + i, ten.first(i), i);
        HalfNumber ties = Made.alike("minutes 0 500 30 1; off 6; joined 4;", 10, 10, 40);
        for (int i = 0; i < 10; i++) e.is("of ten that could all have none, LINE " + i, ties.first(i), i);
        HalfNumber two = Made.alike("", 3, 2, 30);
        int[] due = {0, 1, NONE};
        for (int i = 0; i < 3; i++) e.is("of three for two, LINE " + i, two.first(i), due[i]);
        HalfNumber can = Made.lines("", new String[] {"aaaa"}, new int[] {0}, new String[] {"aaaa", "aaaa", "aaaa"}, new int[] {31, 30, 30});
        e.is("the least of BEST ones, not of all", can.first(0), 1);
        HalfNumber cross = Made.lines("", new String[] {"aaaa", "a..."}, new int[] {0, 0}, new String[] {"a...", "aaaa", "a..."}, new int[] {30, 30, 30});
        // 0 with 1 costs nothing, then 1 has 0 or 2
        e.is("LINE 0 has what is BEST", cross.first(0), 1);
        e.is("LINE 1 the least then", cross.first(1), 0);
        HalfNumber far = Made.alike("", 10, 10, 30);
        for (int i = 0; i < 9; i++) far.sign(1, 9 - i, 3, 0);
        // nine of OUT are not read whole: LINE 0 has the one that is, or leaves it to another for as much
        for (int i = 0; i < 10; i++) e.is("ten for as much in any order, LINE " + i, far.first(i), i);
        for (int i = 0; i < 9; i++) far.sign(0, i, 3, 8);
        // now LINE 9 of IN alone may be with LINE 0 of OUT: all others have the least that is left
        for (int i = 0; i < 10; i++) e.is("ten, one of which can not choose, LINE " + i, far.first(i), i == 9 ? 0 : i + 1);
        HalfNumber order = Made.lines("off 2; joined 2;", new String[] {"aaaa", "aaaa"}, new int[] {0, 0}, new String[] {"bbbb", "aaaa"}, new int[] {30, 34});
        e.is("LINE 0 ahead of LINE 1", order.first(0), 1);
        e.is("LINE 1 has none then", order.first(1), NONE);
    }

    private void shareTerm() {
        e.sentence(TERMS, "SHARE of a PAIR: PAIRINGS in which it is by all.");
        HalfNumber one = onePair(50);
        e.is("of one PAIR, BEST or not", one.share(0, 0, 0), 1);
        e.is("by two", one.share(0, 0, 1), 2);
        HalfNumber ten = Made.alike("", 10, 10, 30);
        e.is("of ten and ten", ten.share(9, 9, 0), 17572114);
        e.is("by all", ten.share(9, 9, 1), 234662231);
        HalfNumber row = Made.alike("", 10, 1, 30);
        e.is("of ten and one", row.share(9, 0, 0), 1);
        e.is("by eleven", row.share(9, 0, 1), 11);
        e.is("of one that MAY not be", onePairThatMayNotBe().share(0, 0, 0), 0);
        e.is("by 1", onePairThatMayNotBe().share(0, 0, 1), 1);
    }

    private void ifItMust() {
        e.sentence(TERMS, "IF it MUST be: by how much the least TOTAL with it is more than that of BEST; IF it MUST NOT: that without it.");
        int[] costs = {0, 9, 10, 11, 470};
        for (int cost : costs) {
            HalfNumber x = onePair(cost);
            e.is("MUST be, for " + cost, x.ifMust(0, 0, true), Math.max(0, cost - 10));
            e.is("MUST NOT, for " + cost, x.ifMust(0, 0, false), Math.max(0, 10 - cost));
        }
        HalfNumber swap = Made.alike("", 2, 2, 30);
        e.is("one of two ways MUST NOT: the other costs no more", swap.ifMust(0, 0, false), 0);
        e.is("one of two ways MUST be", swap.ifMust(0, 1, true), 0);
    }

    // ---- promises 13 to 15

    private void took() {
        e.sentence(13, "What a PAIR TOOK (of any two).");
        HalfNumber x = Made.lines("", new String[] {"aaaa", "...."}, new int[] {999, 0}, new String[] {"bbbb"}, new int[] {0});
        e.is("one that MAY not be", x.took(0, 0), -999);
        e.is("one that TOOK nothing", x.took(1, 0), 0);
        x.setClock(-99);
        e.is("by the CLOCK", x.took(1, 0), 99);
        HalfNumber full = Made.full();
        e.is("the last of both ENDS", full.took(9, 9), 39 - 9 + 3);
    }

    private void tookBad() {
        e.sentence(13, "BAD -10000.");
        e.refusedBy("a LINE of IN", Made::some, Edges.outside(0, 3), (x, v) -> x.took(v, 0), -10000);
        e.refusedBy("a LINE of OUT", Made::some, Edges.outside(0, 2), (x, v) -> x.took(0, v), -10000);
        e.refusedBy("a LINE of ten", Made::full, Edges.outside(0, 9), (x, v) -> x.took(v, 9), -10000);
        e.refused("of no LINES", HalfNumber::new, x -> x.took(0, 0), -10000);
    }

    private void cost() {
        e.sentence(14, "The COST of a PAIR; NONE: it MAY not be.");
        e.is("the least", costOf("", "abcd", "abcd"), 0);
        HalfNumber x = Made.lines("minutes 0 500 0 9; unread 50; colour 50;", new String[] {"...."}, new int[] {0}, new String[] {"...."}, new int[] {500});
        e.is("the most without COLOURS", x.cost(0, 0), 4700);
        HalfNumber y = new HalfNumber();
        Due.road(y, "minutes 0 500 0 9; unread 50; colour 50;");
        y.line(0, 499, 0, 1);
        y.line(1, 999, 0, 6);
        e.is("the most", y.cost(0, 0), 4750);
        y.setClock(-1);
        e.is("one minute more", y.cost(0, 0), NONE);
        e.is("a PLACE may not be", costOf("", "abcd", "abce"), NONE);
        e.is("the last of both ENDS", Made.full().cost(9, 9), 2 * 2 + 0);
    }

    private void costBad() {
        e.sentence(14, "BAD.");
        e.refusedBy("a LINE of IN", Made::some, Edges.outside(0, 3), (x, v) -> x.cost(v, 0), BAD);
        e.refusedBy("a LINE of OUT", Made::some, Edges.outside(0, 2), (x, v) -> x.cost(0, v), BAD);
        e.refusedBy("a LINE of ten", Made::full, Edges.outside(0, 9), (x, v) -> x.cost(9, v), BAD);
        e.refused("of no LINES", HalfNumber::new, x -> x.cost(0, 0), BAD);
    }

    private void why() {
        e.sentence(15, "PLACES at which two LINES may not be one car's (bits), 16 and these, if it TOOK too little or too much.");
        String[] outs = {"abcd", "hbcd", "ahcd", "abhd", "abch", "hhhh", "Hhch"};
        int[] due = {0, 1, 2, 4, 8, 15, 10};
        int[] minutes = {409, 410, 460, 461};
        int[] more = {16, 0, 0, 16};
        for (int k = 0; k < outs.length; k++) {
            for (int m = 0; m < 4; m++) {
                HalfNumber x = Made.lines("", new String[] {"abcd"}, new int[] {400}, new String[] {outs[k]}, new int[] {minutes[m]});
                e.is(outs[k] + " TOOK " + (minutes[m] - 400), x.why(0, 0), more[m] + due[k]);
            }
        }
        HalfNumber ten = Made.alike("", 10, 10, 30);
        ten.sign(0, 9, 3, 8);
        ten.sign(1, 9, 0, 8);
        e.is("the last of both ENDS", ten.why(9, 9), 9);
        e.is("the last of IN", ten.why(9, 0), 8);
        e.is("the last of OUT", ten.why(0, 9), 1);
        e.is("mixed may be", Made.pair("mixed d h 50;", "abcd", 0, "abch", 0).why(0, 0), 0);
        e.is("COLOURS never forbid", Made.pair("colour 50;", "abcd", 1, "abcd", 2).why(0, 0), 0);
    }

    private void whyBad() {
        e.sentence(15, "BAD.");
        e.refusedBy("a LINE of IN", Made::some, Edges.outside(0, 3), (x, v) -> x.why(v, 0), BAD);
        e.refusedBy("a LINE of OUT", Made::some, Edges.outside(0, 2), (x, v) -> x.why(0, v), BAD);
        e.refused("of no LINES", HalfNumber::new, x -> x.why(0, 0), BAD);
    }

    // ---- promises 16 to 23

    private void best() {
        e.sentence(16, "0 the least TOTAL, 1 how many PAIRINGS are BEST, 2 how many there are, 3 the TOTAL of no PAIRS at all.");
        bestIs("no LINES", new HalfNumber(), 0, 1, 1, 0);
        bestIs("one LINE of IN", Made.alike("off 7;", 1, 0, 0), 7, 1, 1, 7);
        bestIs("one LINE of OUT", Made.alike("joined 7;", 0, 1, 0), 7, 1, 1, 7);
        bestIs("one PAIR", onePair(9), 9, 1, 2, 10);
        bestIs("one PAIR, as many points as none", onePair(10), 10, 2, 2, 10);
        bestIs("one PAIR, more points than none", onePair(11), 10, 1, 2, 10);
        bestIs("a PAIR that MAY not be", onePairThatMayNotBe(), 10, 1, 1, 10);
        HalfNumber turned = Made.lines("", new String[] {"aaab", "aaaa"}, new int[] {0, 0}, new String[] {"aaaA", "aaaB"}, new int[] {30, 30});
        // straight on four and four points, turned one and one
        bestIs("two and two, the later of two ways", turned, 2, 1, 7, 48);
        bestIs("ten and ten", Made.alike("", 10, 10, 30), 0, 3628800, 234662231, 240);
        bestIs("ten and ten, all for nothing", Made.alike("off 0; joined 0;", 10, 10, 30), 0, 234662231, 234662231, 0);
        bestIs("ten and ten, none for nothing", Made.alike("off 0; joined 0;", 10, 10, 31), 0, 1, 234662231, 0);
        bestIs("ten and ten, the most points", Made.alike("minutes 0 500 0 9; off 99; joined 99;", 10, 10, 22), 1980, 234662231, 234662231, 1980);
    }

    private void bestIs(String what, HalfNumber x, long... due) {
        for (int k = 0; k < 4; k++) e.is("best(" + k + ") of " + what, x.best(k), due[k]);
        for (int k = 3; k >= 0; k--) e.is("best(" + k + ") of " + what + ", asked again", x.best(k), due[k]);
    }

    private void bestBad() {
        e.sentence(16, "BAD.");
        e.refusedBy("best()", Made::some, Edges.outside(0, 3), HalfNumber::best, BAD);
        e.refusedBy("best() of no LINES", HalfNumber::new, Edges.outside(0, 3), HalfNumber::best, BAD);
    }

    private void first() {
        e.sentence(17, "The LINE of OUT that LINE i of IN has in THE FIRST; NONE: none.");
        e.is("it has LINE 0", onePair(9).first(0), 0);
        e.is("it has none", onePair(11).first(0), NONE);
        e.is("there is no LINE of OUT", Made.alike("", 1, 0, 0).first(0), NONE);
        HalfNumber x = Made.lines("", new String[] {"bbbb", "aaaa"}, new int[] {0, 0}, new String[] {"aaaa", "bbbb"}, new int[] {30, 30});
        e.is("LINE 0 has LINE 1", x.first(0), 1);
        e.is("LINE 1 has LINE 0", x.first(1), 0);
        HalfNumber ten = Made.alike("", 10, 9, 30);
        e.is("the ninth has LINE 8", ten.first(8), 8);
        e.is("the tenth has none", ten.first(9), NONE);
    }

    private void firstBad() {
        e.sentence(17, "BAD.");
        e.refusedBy("first()", Made::some, Edges.outside(0, 3), HalfNumber::first, BAD);
        e.refusedBy("first() of ten", Made::full, Edges.outside(0, 9), HalfNumber::first, BAD);
        e.refused("of no LINES", HalfNumber::new, x -> x.first(0), BAD);
        e.refused("of LINES of OUT alone", () -> Made.alike("", 0, 1, 0), x -> x.first(0), BAD);
    }

    private void sure() {
        e.sentence(18, "Whether a PAIR is in all BEST PAIRINGS (2), in some (1), in none (0).");
        e.is("one point less than none", onePair(9).sure(0, 0), 2);
        e.is("as many points as none", onePair(10).sure(0, 0), 1);
        e.is("one point more than none", onePair(11).sure(0, 0), 0);
        e.is("it MAY not be", onePairThatMayNotBe().sure(0, 0), 0);
        HalfNumber x = Made.lines("", new String[] {"aaaa", "aaaa"}, new int[] {0, 0}, new String[] {"aaaa", "aaaa", "aaaa"}, new int[] {30, 31, 31});
        // LINE 0 of OUT comes in all, with one or the other; LINES 1 and 2 take turns
        for (int i = 0; i < 2; i++) for (int j = 0; j < 3; j++) e.is("of two and three", x.sure(i, j), 1);
        HalfNumber ten = Made.alike("", 10, 10, 30);
        e.is("of ten and ten", ten.sure(9, 9), 1);
        ten.sign(0, 9, 3, 8);
        ten.sign(1, 9, 3, 8);
        e.is("the only one", ten.sure(9, 9), 2);
        e.is("none with it", ten.sure(9, 8), 0);
    }

    private void sureBad() {
        e.sentence(18, "BAD.");
        e.refusedBy("a LINE of IN", Made::some, Edges.outside(0, 3), (x, v) -> x.sure(v, 0), BAD);
        e.refusedBy("a LINE of OUT", Made::some, Edges.outside(0, 2), (x, v) -> x.sure(0, v), BAD);
        e.refused("of no LINES", HalfNumber::new, x -> x.sure(0, 0), BAD);
    }

    private void share() {
        e.sentence(19, "SHARE: 0 the numerator, 1 the denominator.");
        HalfNumber x = Made.alike("", 3, 2, 30);
        e.is("the numerator", x.share(2, 1, 0), 3);
        e.is("the denominator", x.share(2, 1, 1), 13);
        e.is("of one that MAY not be: 0", onePairThatMayNotBe().share(0, 0, 0), 0);
        e.is("by 1", onePairThatMayNotBe().share(0, 0, 1), 1);
    }

    private void shareBad() {
        e.sentence(19, "BAD.");
        e.refusedBy("a LINE of IN", Made::some, Edges.outside(0, 3), (x, v) -> x.share(v, 0, 0), BAD);
        e.refusedBy("a LINE of OUT", Made::some, Edges.outside(0, 2), (x, v) -> x.share(0, v, 1), BAD);
        e.refusedBy("what", Made::some, Edges.outside(0, 1), (x, v) -> x.share(0, 0, v), BAD);
        e.refused("of no LINES", HalfNumber::new, x -> x.share(0, 0, 0), BAD);
    }

    private void ifMust() {
        e.sentence(20, "IF a PAIR MUST be (must true), MUST NOT.");
        e.is("one point less than none, MUST", onePair(9).ifMust(0, 0, true), 0);
        e.is("one point less than none, MUST NOT", onePair(9).ifMust(0, 0, false), 1);
        e.is("one point more than none, MUST", onePair(11).ifMust(0, 0, true), 1);
        e.is("one point more than none, MUST NOT", onePair(11).ifMust(0, 0, false), 0);
        HalfNumber dearest = new HalfNumber();
        Due.road(dearest, "minutes 0 500 0 9; unread 50; colour 50; off 0; joined 0;");
        dearest.line(0, 0, 0, 1);
        dearest.line(1, 500, 0, 2);
        e.is("the most that MUST can be", dearest.ifMust(0, 0, true), 4750);
        HalfNumber two = Made.lines("", new String[] {"aaaa", "aaaa"}, new int[] {0, 5}, new String[] {"aaaa", "aaaa"}, new int[] {30, 36});
        // straight on 0 and 1 points, turned 6 and 5
        for (int k = 0; k < 4; k++) {
            e.is("one of two and two, MUST", two.ifMust(k / 2, k % 2, true), k % 3 == 0 ? 0 : 10);
            e.is("one of two and two, MUST NOT", two.ifMust(k / 2, k % 2, false), k % 3 == 0 ? 10 : 0);
        }
        HalfNumber dear = Made.alike("off 99; joined 99;", 1, 1, 30);
        e.is("the most that MUST NOT can be for one PAIR", dear.ifMust(0, 0, false), 198);
    }

    private void ifMustRefused() {
        e.sentence(20, "BAD; NONE: it MAY not be (must true).");
        for (boolean must : new boolean[] {true, false}) {
            e.refusedBy("a LINE of IN, " + must, Made::some, Edges.outside(0, 3), (x, v) -> x.ifMust(v, 0, must), BAD);
            e.refusedBy("a LINE of OUT, " + must, Made::some, Edges.outside(0, 2), (x, v) -> x.ifMust(0, v, must), BAD);
            e.refused("of no LINES, " + must, HalfNumber::new, x -> x.ifMust(0, 0, must), BAD);
        }
        e.refused("it MAY not be, true", EdgesOfPairs::onePairThatMayNotBe, x -> x.ifMust(0, 0, true), NONE);
        e.is("it MAY not be, false: it is not anyway", onePairThatMayNotBe().ifMust(0, 0, false), 0);
        e.refused("it TOOK too much, true", () -> Made.alike("", 1, 1, 61), x -> x.ifMust(0, 0, true), NONE);
        e.is("it TOOK the most, true", Made.alike("", 1, 1, 60).ifMust(0, 0, true), 6);
    }

    private void alone() {
        e.sentence(21, "LINES of an END that have none in all BEST PAIRINGS (what 0), in some (1), in all PAIRINGS (2; bits each).");
        for (int end = 0; end < 2; end++) {
            aloneIs("one point less than none", onePair(9), end, 0, 0, 0);
            aloneIs("as many points as none", onePair(10), end, 0, 1, 0);
            aloneIs("one point more than none", onePair(11), end, 1, 1, 0);
            aloneIs("a PAIR that MAY not be", onePairThatMayNotBe(), end, 1, 1, 1);
            aloneIs("no LINES", new HalfNumber(), end, 0, 0, 0);
            aloneIs("ten and ten", Made.alike("", 10, 10, 30), end, 0, 0, 0);
            aloneIs("ten and ten, too late", Made.alike("", 10, 10, 61), end, 1023, 1023, 1023);
            aloneIs("ten and ten that cost too much", Made.alike("off 0; joined 0;", 10, 10, 60), end, 1023, 1023, 0);
        }
        aloneIs("ten for nine", Made.alike("", 10, 9, 30), 0, 0, 1023, 0);
        aloneIs("nine of ten", Made.alike("", 10, 9, 30), 1, 0, 0, 0);
        HalfNumber odd = Made.lines("", new String[] {"aaaa", "bbbb"}, new int[] {0, 0}, new String[] {"bbbb", "cccc"}, new int[] {30, 30});
        aloneIs("two and two, LINE 1 with LINE 0", odd, 0, 1, 1, 1);
        aloneIs("two and two, LINE 0 with LINE 1", odd, 1, 2, 2, 2);
        aloneIs("ten without any", Made.alike("", 10, 0, 30), 0, 1023, 1023, 1023);
        aloneIs("none of ten", Made.alike("", 10, 0, 30), 1, 0, 0, 0);
    }

    private void aloneIs(String what, HalfNumber x, int end, int... due) {
        for (int k = 0; k < 3; k++) e.is("alone(" + end + ", " + k + ") of " + what, x.alone(end, k), due[k]);
    }

    private void aloneBad() {
        e.sentence(21, "BAD.");
        e.refusedBy("an END", Made::some, Edges.outside(0, 1), (x, v) -> x.alone(v, 0), BAD);
        e.refusedBy("what of IN", Made::some, Edges.outside(0, 2), (x, v) -> x.alone(0, v), BAD);
        e.refusedBy("what of OUT", HalfNumber::new, Edges.outside(0, 2), (x, v) -> x.alone(1, v), BAD);
    }

    private void many() {
        e.sentence(22, "PAIRS in a BEST PAIRING: the fewest (what 0), the most (1).");
        manyIs("no LINES", new HalfNumber(), 0, 0);
        manyIs("one point less than none", onePair(9), 1, 1);
        manyIs("as many points as none", onePair(10), 0, 1);
        manyIs("one point more than none", onePair(11), 0, 0);
        manyIs("ten and ten", Made.alike("", 10, 10, 30), 10, 10);
        manyIs("ten and ten, all for nothing", Made.alike("off 0; joined 0;", 10, 10, 30), 0, 10);
        manyIs("ten for nine", Made.alike("", 10, 9, 30), 9, 9);
        manyIs("ten and ten, too late", Made.alike("", 10, 10, 61), 0, 0);
        manyIs("ten and none", Made.alike("", 10, 0, 30), 0, 0);
    }

    private void manyIs(String what, HalfNumber x, int fewest, int most) {
        e.is("many(0) of " + what, x.many(0), fewest);
        e.is("many(1) of " + what, x.many(1), most);
    }

    private void manyBad() {
        e.sentence(22, "BAD.");
        e.refusedBy("many()", Made::some, Edges.outside(0, 1), HalfNumber::many, BAD);
        e.refusedBy("many() of no LINES", HalfNumber::new, Edges.outside(0, 1), HalfNumber::many, BAD);
    }

    private void ways() {
        e.sentence(23, "PAIRINGS of just n PAIRS (0 to 10): how many.");
        long[] tens = {1, 100, 4050, 86400, 1058400, 7620480, 31752000, 72576000, 81648000, 36288000, 3628800};
        long[] threeAndTen = {1, 30, 270, 720, 0, 0, 0, 0, 0, 0, 0};
        HalfNumber ten = Made.alike("", 10, 10, 30);
        HalfNumber three = Made.alike("", 3, 10, 30);
        HalfNumber turned = Made.alike("", 10, 3, 30);
        for (int n = 0; n <= 10; n++) {
            e.is("ways(" + n + ") of no LINES", new HalfNumber().ways(n), n == 0 ? 1 : 0);
            e.is("ways(" + n + ") of a PAIR that MAY not be", onePairThatMayNotBe().ways(n), n == 0 ? 1 : 0);
            e.is("ways(" + n + ") of a PAIR", onePair(11).ways(n), n <= 1 ? 1 : 0);
            e.is("ways(" + n + ") of ten and ten", ten.ways(n), tens[n]);
            e.is("ways(" + n + ") of three and ten", three.ways(n), threeAndTen[n]);
            e.is("ways(" + n + ") of ten and three", turned.ways(n), threeAndTen[n]);
        }
    }

    private void waysBad() {
        e.sentence(23, "BAD.");
        e.refusedBy("ways()", Made::some, Edges.outside(0, 10), HalfNumber::ways, BAD);
        e.refusedBy("ways() of no LINES", HalfNumber::new, Edges.outside(0, 10), HalfNumber::ways, BAD);
    }
}
