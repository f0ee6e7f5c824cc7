/** The told pairing and prices; promises 24 to 27. */
final class EdgesOfTold {
    private static final int BAD = Edges.BAD, NONE = Edges.NONE;
    private static final int TERMS = Edges.TERMS;
    private static final int BAD_PRICE = -1000000, PRICE_NULL = -1000011, PRICE_INDEX = -1000012, PRICE_CAST = -1000013, PRICE_BOUND = -1000020;
    private final Edges e;

    EdgesOfTold(Edges e) {
        this.e = e;
    }

    void all() {
        pricesTerm();
        tell();
        tellBad();
        toldByNumbers();
        adopt();
        judgeWrong();
        judgeWhy();
        judgeTotal();
        judgeBad();
        pricesRead();
        pricesHold();
        pricesOfPairs();
        pricesOfLines();
        pricesProve();
        pricesBad();
        pricesFaults();
        pricesOutOfBounds();
    }

    // ---- what the tests of this part share

    /** A pair of 9 points; left alone, LINE of IN costs 6, of OUT 4. */
    private static HalfNumber onePair(int... prices) {
        HalfNumber x = Made.alike("minutes 0 500 30 1; off 6; joined 4;", 1, 1, 39);
        x.sheet(0, 2, prices.length);
        Made.lay(x, 0, prices);
        return x;
    }

    private void pricesAre(String what, HalfNumber x, int... due) {
        for (int k = 0; k < 5; k++) e.is("prices(0, 2, 0, " + k + ") of " + what, x.prices(0, 2, 0, k), due[k]);
    }

    /** Two like lines, a third of IN that may be none of OUT. */
    private static HalfNumber threeAndTwo() {
        return Made.lines("", new String[] {"aaaa", "aaaa", "bbbb"}, new int[] {0, 0, 0}, new String[] {"aaaa", "aaaa"}, new int[] {30, 32});
    }

    private void judgeIs(String what, HalfNumber x, int... due) {
        for (int k = 0; k < 4; k++) e.is("judge(" + k + ") of " + what, x.judge(k), due[k]);
    }

    private static HalfNumber told(HalfNumber x, int... pairs) {
        for (int k = 0; k < pairs.length; k += 2) x.tell(pairs[k], pairs[k + 1]);
        return x;
    }

    // ---- Terms

    private void pricesTerm() {
        e.sentence(TERMS, "PRICES, of each LINE a number: they HOLD, if for each PAIR that MAY be both are no more than its COST, of IN no more than off, of OUT no more than joined; then they PROVE that no TOTAL is less than their sum.");
        pricesAre("both as much as the COST", onePair(6, 3), 1, NONE, NONE, 9, 0);
        pricesAre("both one more than the COST", onePair(6, 4), 0, 0, NONE, NONE, NONE);
        pricesAre("both one less than the COST", onePair(5, 3), 1, NONE, NONE, 8, 1);
        pricesAre("of IN as much as off", onePair(6, -1), 1, NONE, NONE, 5, 4);
        pricesAre("of IN one more than off", onePair(7, -1), 0, NONE, 0, NONE, NONE);
        pricesAre("of OUT as much as joined", onePair(5, 4), 1, NONE, NONE, 9, 0);
        pricesAre("of OUT one more than joined", onePair(4, 5), 0, NONE, 1, NONE, NONE);
        HalfNumber apart = Made.pair("off 6; joined 4;", "aaaa", 0, "baaa", 0);
        apart.sheet(0, 2, 2);
        Made.lay(apart, 0, 6, 4);
        pricesAre("a PAIR that MAY not be", apart, 1, NONE, NONE, 10, 0);
        HalfNumber none = new HalfNumber();
        none.sheet(0, 2, 0);
        pricesAre("no LINES", none, 1, NONE, NONE, 0, 0);
    }

    // ---- promises 24 and 25

    private void tell() {
        e.sentence(24, "THE TOLD PAIRING: LINE i of IN has LINE j of OUT (0 to 9, there or not; NONE: none): what it had.");
        HalfNumber x = new HalfNumber();
        for (int i = 0; i < 10; i++) {
            e.is("LINE " + i + " has 9", x.tell(i, 9), NONE);
            e.is("LINE " + i + " has 0", x.tell(i, 0), 9);
            e.is("LINE " + i + " has none", x.tell(i, NONE), 0);
            e.is("LINE " + i + " has " + i, x.tell(i, i), NONE);
        }
        for (int i = 0; i < 10; i++) e.is("LINE " + i + " had", x.tell(i, NONE), i);
        HalfNumber y = Made.full();
        e.is("there", y.tell(9, 9), 3);
        e.is("asked again", y.tell(9, 9), 9);
    }

    private void tellBad() {
        e.sentence(24, "BAD.");
        e.refusedBy("LINE i", Made::some, Edges.outside(0, 9), (x, v) -> x.tell(v, 0), BAD);
        e.refusedBy("LINE j", Made::some, Edges.outside(0, 9), (x, v) -> x.tell(0, v), BAD);
        e.refusedBy("LINE j beside NONE", Made::some, new int[] {-2, -3, -5}, (x, v) -> x.tell(0, v), BAD);
        e.refused("LINE i as NONE", Made::some, x -> x.tell(NONE, 0), BAD);
        e.refused("LINE i is BAD, j NONE", Made::some, x -> x.tell(10, NONE), BAD);
    }

    private void toldByNumbers() {
        e.sentence(24, "(At first none has any; LINES that go take nothing with them: it is told by numbers.)");
        HalfNumber x = new HalfNumber();
        for (int i = 0; i < 10; i++) e.is("at first, LINE " + i, x.tell(i, NONE), NONE);
        HalfNumber y = told(threeAndTwo(), 0, 1, 1, 0, 2, 9);
        y.drop(0, 0);
        y.drop(1, 1);
        int[] due = {1, 0, 9};
        for (int i = 0; i < 3; i++) e.is("LINES are gone, told " + i, y.tell(i, due[i]), due[i]);
        y.drop(0, 0);
        y.drop(0, 0);
        y.drop(1, 0);
        for (int i = 0; i < 3; i++) e.is("all are gone, told " + i, y.tell(i, due[i]), due[i]);
        y.line(0, 0, Due.plate("aaaa"), 0);
        e.is("a new LINE 0 of IN has what was told of 0", y.judge(0), 0);
        e.is("which is not there", y.judge(1), 1);
    }

    private void adopt() {
        e.sentence(25, "THE TOLD PAIRING becomes THE FIRST: how many PAIRS.");
        HalfNumber x = told(new HalfNumber(), 0, 5, 9, 9);
        e.is("of no LINES", x.adopt(), 0);
        e.is("LINE 0", x.tell(0, NONE), NONE);
        e.is("LINE 9", x.tell(9, NONE), NONE);
        HalfNumber y = told(threeAndTwo(), 0, 1, 2, 0, 3, 4);
        e.is("of three and two", y.adopt(), 2);
        int[] due = {0, 1, NONE, NONE};
        for (int i = 0; i < 4; i++) e.is("LINE " + i, y.tell(i, due[i]), due[i]);
        e.is("it is BEST", y.judge(3), 0);
        HalfNumber ten = Made.alike("", 10, 10, 30);
        e.is("of ten and ten", ten.adopt(), 10);
        e.is("LINE 9 of ten", ten.tell(9, NONE), 9);
        HalfNumber apart = told(Made.alike("", 10, 10, 61), 4, 4);
        e.is("of ten that MAY not be", apart.adopt(), 0);
        e.is("LINE 4", apart.tell(4, NONE), NONE);
    }

    // ---- promise 26

    private void judgeWrong() {
        e.sentence(26, "Of THE TOLD PAIRING: 0 the first LINE of IN that is wrong (NONE)");
        e.is("none is told", threeAndTwo().judge(0), NONE);
        e.is("none is wrong", told(threeAndTwo(), 0, 1, 1, 0).judge(0), NONE);
        e.is("of two wrong ones the first", told(threeAndTwo(), 1, 2, 2, 2).judge(0), 1);
        e.is("the first of all", told(threeAndTwo(), 0, 2).judge(0), 0);
        e.is("the last of all", told(threeAndTwo(), 2, 0).judge(0), 2);
        // LINE 3 and those behind it are no LINES of IN
        HalfNumber x = told(threeAndTwo(), 3, 0, 9, 9);
        e.is("told of LINES that are not there", x.judge(0), NONE);
        x.line(0, 0, Due.plate("bbbb"), 0);
        e.is("LINE 3 has come", x.judge(0), 3);
        e.is("no LINES at all", told(new HalfNumber(), 0, 0).judge(0), NONE);
        e.is("LINE 9 of ten", told(Made.alike("", 10, 9, 30), 9, 9).judge(0), 9);
        e.is("LINE 9 of ten with LINE 8", told(Made.alike("", 10, 9, 30), 9, 8).judge(0), NONE);
    }

    private void judgeWhy() {
        e.sentence(26, "1 why (1 there is no such LINE of OUT, 2 an earlier one has it, 3 the PAIR MAY not be; 0)");
        e.is("none is wrong", threeAndTwo().judge(1), 0);
        e.is("LINE 1 is the last of OUT", told(threeAndTwo(), 0, 1).judge(1), 0);
        e.is("LINE 2 of OUT is not there", told(threeAndTwo(), 0, 2).judge(1), 1);
        e.is("LINE 9 of OUT is not there", told(threeAndTwo(), 0, 9).judge(1), 1);
        e.is("an earlier one has it", told(threeAndTwo(), 0, 1, 1, 1).judge(1), 2);
        e.is("the PAIR MAY not be", told(threeAndTwo(), 2, 0).judge(1), 3);
        e.is("an earlier one has it, and it MAY not be", told(threeAndTwo(), 0, 0, 2, 0).judge(1), 2);
        e.is("an earlier one that is not the first", told(threeAndTwo(), 1, 0, 2, 0).judge(1), 2);
        e.is("a later one, not there, has it", told(threeAndTwo(), 0, 0, 5, 0).judge(1), 0);
        HalfNumber x = told(Made.alike("", 1, 1, 60), 0, 0);
        e.is("it TOOK the most", x.judge(1), 0);
        x.setClock(-1);
        e.is("it TOOK too much", x.judge(1), 3);
    }

    private void judgeTotal() {
        e.sentence(26, "2 its TOTAL, 3 by how much that is more than BEST (2, 3: NONE, if it is wrong).");
        judgeIs("no PAIRS", threeAndTwo(), NONE, 0, 60, 46);
        judgeIs("one PAIR", told(threeAndTwo(), 1, 1), NONE, 0, 38, 24);
        judgeIs("BEST", told(threeAndTwo(), 0, 1, 1, 0), NONE, 0, 14, 0);
        judgeIs("a wrong one", told(threeAndTwo(), 0, 0, 1, 0), 1, 2, NONE, NONE);
        judgeIs("what is told of LINES that are not there", told(threeAndTwo(), 0, 0, 1, 1, 7, 0), NONE, 0, 14, 0);
        judgeIs("no LINES", new HalfNumber(), NONE, 0, 0, 0);
        HalfNumber dear = told(Made.alike("minutes 0 500 0 9; off 0; joined 0;", 1, 1, 500), 0, 0);
        judgeIs("a dear PAIR", dear, NONE, 0, 4500, 4500);
        HalfNumber ten = Made.alike("off 99; joined 99;", 10, 10, 30);
        judgeIs("none of ten", ten, NONE, 0, 1980, 1980);
        ten.adopt();
        judgeIs("ten of ten", ten, NONE, 0, 0, 0);
    }

    private void judgeBad() {
        e.sentence(26, "BAD.");
        e.refusedBy("judge()", Made::some, Edges.outside(0, 3), HalfNumber::judge, BAD);
        e.refusedBy("judge() of no LINES", HalfNumber::new, Edges.outside(0, 3), HalfNumber::judge, BAD);
    }

    // ---- promise 27

    private void pricesRead() {
        e.sentence(27, "PRICES are read of a SHEET taken as of a lane, of all LINES of IN, then of OUT, from CELL f on:");
        for (int lane = 0; lane < 3; lane++) {
            HalfNumber x = Made.alike("off 50; joined 50;", 1, 1, 61);
            x.sheet(3, lane, 4);
            Made.lay(x, 3, 1, 10, 40, 20);
            int[] sums = {11, 50, 60};
            for (int f = 0; f < 3; f++) e.is("from CELL " + f + " of lane " + lane, x.prices(3, lane, f, 3), sums[f]);
            e.is("from the last CELL", x.prices(3, lane, 3, 3), PRICE_INDEX);
            e.is("from CELL -1", x.prices(3, lane, -1, 3), PRICE_INDEX);
        }
        HalfNumber order = Made.alike("off 9; joined 1;", 2, 1, 61);
        order.sheet(0, 0, 4);
        Made.lay(order, 0, 9, 9, 1, 9);
        e.is("IN, then OUT", order.prices(0, 0, 0, 3), 19);
        e.is("OUT is LINE 2", order.prices(0, 0, 1, 2), 2);
        HalfNumber full = Made.full();
        full.sheet(3, 1, 64);
        full.lay(3, 63, -7);
        e.is("twenty CELLS, the last one the last of the SHEET", full.prices(3, 1, 44, 0), 1);
        e.is("it is read", full.prices(3, 1, 44, 3), -7);
        e.is("one CELL farther", full.prices(3, 1, 45, 0), PRICE_INDEX);
        e.is("one CELL nearer", full.prices(3, 1, 43, 3), 0);
    }

    private void pricesHold() {
        e.sentence(27, "whether they HOLD (what 0: 1; else 0)");
        e.is("they do", onePair(6, 3).prices(0, 2, 0, 0), 1);
        e.is("for a PAIR they do not", onePair(6, 4).prices(0, 2, 0, 0), 0);
        e.is("for a LINE of IN they do not", onePair(7, 0).prices(0, 2, 0, 0), 0);
        e.is("for a LINE of OUT they do not", onePair(0, 5).prices(0, 2, 0, 0), 0);
        e.is("the least there are", onePair(-999, -999).prices(0, 2, 0, 0), 1);
        e.is("the most there are", onePair(999, 999).prices(0, 2, 0, 0), 0);
    }

    private void pricesOfPairs() {
        e.sentence(27, "the first LINE of IN of a PAIR whose COST is less than both (1; NONE)");
        e.is("the COST is as much as both", onePair(6, 3).prices(0, 2, 0, 1), NONE);
        e.is("the COST is one less", onePair(6, 4).prices(0, 2, 0, 1), 0);
        e.is("though a LINE's own is too great", onePair(999, -990).prices(0, 2, 0, 1), NONE);
        HalfNumber x = threeAndTwo();
        x.sheet(0, 2, 5);
        Made.lay(x, 0, 0, 1, 99, 0, 2);
        // 0 with 0 costs 0, 1 with 0 costs 0, 2 may be with none
        e.is("the first of several", x.prices(0, 2, 0, 1), 1);
        x.lay(0, 0, 1);
        e.is("the first of all", x.prices(0, 2, 0, 1), 0);
        Made.lay(x, 0, 0, 0, 99);
        e.is("a PAIR that MAY not be is none", x.prices(0, 2, 0, 1), NONE);
        HalfNumber ten = Made.alike("", 10, 10, 30);
        ten.sheet(0, 0, 20);
        e.is("of ten and ten", ten.prices(0, 0, 0, 1), NONE);
        ten.lay(0, 9, 1);
        e.is("LINE 9", ten.prices(0, 0, 0, 1), 9);
        ten.lay(0, 9, 0);
        ten.lay(0, 19, 1);
        e.is("LINE 9 of OUT with LINE 0", ten.prices(0, 0, 0, 1), 0);
    }

    private void pricesOfLines() {
        e.sentence(27, "the first LINE (IN, then OUT behind these) whose own is too great (2; NONE)");
        e.is("as much as off and joined", onePair(6, 4).prices(0, 2, 0, 2), NONE);
        e.is("one more than off", onePair(7, 5).prices(0, 2, 0, 2), 0);
        e.is("one more than joined", onePair(6, 5).prices(0, 2, 0, 2), 1);
        HalfNumber ten = Made.alike("off 0; joined 0;", 10, 10, 30);
        ten.sheet(0, 0, 20);
        e.is("of ten and ten", ten.prices(0, 0, 0, 2), NONE);
        for (int k = 19; k >= 0; k--) {
            ten.lay(0, k, 1);
            e.is("LINE " + k, ten.prices(0, 0, 0, 2), k);
        }
    }

    private void pricesProve() {
        e.sentence(27, "what they PROVE (3; NONE: they do not HOLD), how much less than BEST that is (4; NONE).");
        pricesAre("as much as BEST", onePair(6, 3), 1, NONE, NONE, 9, 0);
        pricesAre("one less", onePair(6, 2), 1, NONE, NONE, 8, 1);
        pricesAre("they do not HOLD by one", onePair(6, 4), 0, 0, NONE, NONE, NONE);
        pricesAre("a sum that is NONE's number", onePair(-2, -2), 1, NONE, NONE, -4, 13);
        HalfNumber ten = Made.alike("off 99; joined 99;", 10, 10, 61);
        ten.sheet(0, 2, 20);
        for (int c = 0; c < 20; c++) ten.lay(0, c, -999);
        pricesAre("the least of twenty", ten, 1, NONE, NONE, -19980, 21960);
        for (int c = 0; c < 20; c++) ten.lay(0, c, 99);
        pricesAre("the most of twenty that HOLD", ten, 1, NONE, NONE, 1980, 0);
    }

    private void pricesBad() {
        e.sentence(27, "BAD -1000000: k, lane, what;");
        e.refusedBy("k", Made::some, Edges.outside(0, 3), (x, v) -> x.prices(v, 1, 0, 0), BAD_PRICE);
        e.refusedBy("lane", Made::some, Edges.outside(0, 2), (x, v) -> x.prices(1, v, 0, 0), BAD_PRICE);
        e.refusedBy("what", Made::some, Edges.outside(0, 4), (x, v) -> x.prices(1, 1, 0, v), BAD_PRICE);
        e.refused("what, of a SHEET of nothing", Made::some, x -> x.prices(3, 1, 0, 5), BAD_PRICE);
        e.refused("what, of another lane", Made::some, x -> x.prices(1, 0, 0, -1), BAD_PRICE);
        e.refused("lane, without any LINE", HalfNumber::new, x -> x.prices(0, 3, 0, 0), BAD_PRICE);
    }

    private void pricesFaults() {
        e.sentence(27, "-1000010 less the FAULT: NULL, CAST (also without any LINE), then CELL by CELL INDEX;");
        e.refused("NULL", Made::some, x -> x.prices(3, 0, 0, 0), PRICE_NULL);
        e.refused("NULL ahead of INDEX", Made::some, x -> x.prices(3, 0, -1, 0), PRICE_NULL);
        e.refused("NULL without any LINE", HalfNumber::new, x -> x.prices(0, 0, 0, 0), PRICE_NULL);
        for (int k = 0; k < 3; k++) {
            for (int lane = 0; lane < 3; lane++) {
                int sheet = k;
                int as = lane;
                if (k != lane) e.refused("CAST of lane " + k + " as " + lane, Made::some, x -> x.prices(sheet, as, -1, 0), PRICE_CAST);
            }
        }
        HalfNumber none = new HalfNumber();
        none.sheet(0, 1, 0);
        e.is("CAST without any LINE", none.prices(0, 2, 0, 0), PRICE_CAST);
        for (int f : new int[] {0, 1, -1, Integer.MAX_VALUE, Integer.MIN_VALUE}) e.is("no LINE, no CELL: from CELL " + f, none.prices(0, 1, f, 0), 1);
        // seven lines, seven cells
        e.is("all CELLS", Made.some().prices(1, 1, 0, 0), 0);
        e.refusedBy("INDEX", Made::some, Edges.outside(0, 0), (x, v) -> x.prices(1, 1, v, 0), PRICE_INDEX);
        e.refused("INDEX at once", Made::some, x -> x.prices(1, 1, 7, 0), PRICE_INDEX);
        e.refused("INDEX behind the first CELL", Made::some, x -> x.prices(1, 1, 6, 0), PRICE_INDEX);
        e.refusedBy("INDEX far away", Made::full, new int[] {Integer.MAX_VALUE - 19, Integer.MAX_VALUE - 18, Integer.MIN_VALUE + 1, -19, -20}, (x, v) -> x.prices(1, 1, v, 0), PRICE_INDEX);
        for (int what = 0; what < 5; what++) e.is("whatever is asked", Made.some().prices(1, 1, 1, what), PRICE_INDEX);
    }

    private void pricesOutOfBounds() {
        e.sentence(27, "-1000020 less i: CELL f + i is not -999 to 999; the first met.");
        HalfNumber x = Made.alike("", 10, 10, 30);
        x.sheet(0, 2, 64);
        for (int i = 19; i >= 0; i--) {
            for (int v : new int[] {999, 1000, -999, -1000}) {
                x.lay(0, 44 + i, v);
                e.is("CELL f + " + i + " of " + v, x.prices(0, 2, 44, 0), Math.abs(v) > 999 ? PRICE_BOUND - i : v < 0 ? 1 : 0);
            }
            x.lay(0, 44 + i, 0);
        }
        x.lay(0, 4, Integer.MAX_VALUE);
        e.is("the most that an INT has", x.prices(0, 2, 1, 0), PRICE_BOUND - 3);
        x.lay(0, 3, Integer.MIN_VALUE);
        e.is("the least, the first of two", x.prices(0, 2, 1, 0), PRICE_BOUND - 2);
        e.is("CELLS ahead of f are not asked", x.prices(0, 2, 5, 0), 1);
        x.lay(0, 24, 1000);
        e.is("the CELL of the last LINE is asked", x.prices(0, 2, 5, 0), PRICE_BOUND - 19);
        x.lay(0, 4, 0);
        e.is("the CELL behind it is not", x.prices(0, 2, 4, 0), 1);
        x.lay(0, 63, 1000);
        e.is("INDEX is met behind it", x.prices(0, 2, 63, 0), PRICE_BOUND);
        e.is("INDEX is met ahead of all", x.prices(0, 2, 64, 0), PRICE_INDEX);
        e.is("CAST is met ahead of it", x.prices(0, 1, 63, 0), PRICE_CAST);
        for (int what = 0; what < 5; what++) e.is("whatever is asked", x.prices(0, 2, 24, what), PRICE_BOUND);
    }
}
