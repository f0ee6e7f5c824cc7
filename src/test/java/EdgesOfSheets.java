/** Images, sheets, lines read of them, counts; promises 37 to 43. */
final class EdgesOfSheets {
    private static final int BAD = Edges.BAD, STATE = Edges.STATE, FULL = Edges.FULL, NONE = Edges.NONE;
    private static final int TERMS = Edges.TERMS;
    private static final int LAY_NULL = -11, LAY_INDEX = -12, SIZE = -14, OUT_OF_BOUNDS = -1000020;
    private static final int NULL_FAULT = 1, INDEX_FAULT = 2, CAST_FAULT = 3;
    private static final int[] FAR = {Integer.MIN_VALUE, Integer.MIN_VALUE + 1, -61, -60, -6, -1, Integer.MAX_VALUE - 60, Integer.MAX_VALUE - 5, Integer.MAX_VALUE};
    private final Edges e;

    EdgesOfSheets(Edges e) {
        this.e = e;
    }

    void all() {
        sheetsTerm();
        lanesHaveASign();
        faultTerm();
        keep();
        keepBad();
        back();
        backRefused();
        sheet();
        sheetRefused();
        lay();
        layRefused();
        read();
        readOfTheMachine();
        readBad();
        readRefused();
        readFirstMet();
        torn();
        count();
        countBad();
    }

    // ---- what the tests of this part share

    /** Ends of so many lines; SHEET 0 has so many shorts. */
    private static HalfNumber cells(int ins, int outs, int n) {
        HalfNumber x = new HalfNumber();
        for (int k = 0; k < ins; k++) x.line(0, 0, 0, 0);
        for (int k = 0; k < outs; k++) x.line(1, 0, 0, 0);
        x.sheet(0, 1, n);
        return x;
    }

    private static HalfNumber laid(HalfNumber x, int cell, int v) {
        x.lay(0, cell, v);
        return x;
    }

    /** A cell as the price of the only line there is: what it has, if that is no more than off. */
    private static int cell(HalfNumber x, int k, int lane, int i) {
        return x.prices(k, lane, i, 3);
    }

    private static HalfNumber oneLine() {
        HalfNumber x = new HalfNumber();
        Due.road(x, "off 99;");
        x.line(0, 0, 0, 0);
        return x;
    }

    private void readIs(String what, HalfNumber x, int got, int came, int torn, int lines) {
        e.is("read() of " + what, got, came);
        e.is("torn() of " + what, x.torn(), torn);
        e.is("LINES of IN behind " + what, x.count(0), lines);
    }

    // ---- Terms

    private void sheetsTerm() {
        e.sentence(TERMS, "SHEETS 0 to 3 are rows of BYTES (lane 0), SHORTS (1), INTS (2), all with a sign, with 0 to 64 CELLS, or nothing (at first).");
        HalfNumber x = oneLine();
        for (int k = 0; k < 4; k++) {
            e.is("SHEET " + k + " at first", x.lay(k, 0, 0), LAY_NULL);
            for (int lane = 0; lane < 3; lane++) {
                e.is("SHEET " + k + " of lane " + lane, x.sheet(k, lane, 64), 1);
                e.is("its last CELL", x.lay(k, 63, -5), 1);
                e.is("is", cell(x, k, lane, 63), -5);
                e.is("the CELL behind it", x.lay(k, 64, 0), LAY_INDEX);
                e.is("of no CELLS", x.sheet(k, lane, 0), 1);
                e.is("has none", x.lay(k, 0, 0), LAY_INDEX);
            }
        }
        e.refused("SHEET 4", Made::some, y -> y.sheet(4, 0, 1), BAD);
        e.refused("SHEET -1", Made::some, y -> y.sheet(-1, 0, 1), BAD);
        e.refused("lane 3", Made::some, y -> y.sheet(0, 3, 1), BAD);
        e.refused("lane -1", Made::some, y -> y.sheet(0, -1, 1), BAD);
        e.refused("65 CELLS", Made::some, y -> y.sheet(0, 0, 65), BAD);
        e.refused("-1 CELLS", Made::some, y -> y.sheet(0, 0, -1), SIZE);
    }

    private void lanesHaveASign() {
        e.sentence(TERMS, "all with a sign");
        HalfNumber x = oneLine();
        int[][] laid = {{99, 99, 99, 99}, {-1, -1, -1, -1}, {128, -128, NONE, NONE}, {255, -1, NONE, NONE}, {256, 0, NONE, NONE},
            {-128, -128, -128, -128}, {-129, NONE, -129, -129}, {-256, 0, -256, -256}, {-257, -1, -257, -257},
            {32767, -1, OUT_OF_BOUNDS, OUT_OF_BOUNDS}, {32768, 0, OUT_OF_BOUNDS, OUT_OF_BOUNDS}, {65535, -1, -1, OUT_OF_BOUNDS},
            {65536, 0, 0, OUT_OF_BOUNDS}, {-65536, 0, 0, OUT_OF_BOUNDS}, {-65537, -1, -1, OUT_OF_BOUNDS},
            {Integer.MAX_VALUE, -1, -1, OUT_OF_BOUNDS}, {Integer.MIN_VALUE, 0, 0, OUT_OF_BOUNDS}, {Integer.MIN_VALUE + 99, 99, 99, OUT_OF_BOUNDS}};
        for (int lane = 0; lane < 3; lane++) {
            x.sheet(lane, lane, 1);
            for (int[] v : laid) {
                x.lay(lane, 0, v[0]);
                e.is(v[0] + " in lane " + lane, cell(x, lane, lane, 0), v[1 + lane]);
            }
        }
    }

    private void faultTerm() {
        e.sentence(TERMS, "A FAULT is what the machine finds: 1 NULL (nothing), 2 INDEX, 3 CAST (another lane), 4 SIZE (below 0).");
        HalfNumber x = new HalfNumber();
        e.is("NULL", x.lay(0, 0, 0), -10 - 1);
        x.read(0, 0, 0, 1, 0);
        e.is("NULL by torn()", x.torn(), 1);
        x.sheet(0, 0, 5);
        e.is("INDEX", x.lay(0, 5, 0), -10 - 2);
        x.read(0, 0, 0, 1, 0);
        e.is("INDEX by torn()", x.torn(), 2);
        x.read(0, 1, 0, 1, 0);
        e.is("CAST by torn()", x.torn(), 3);
        e.is("CAST by prices()", x.prices(0, 2, 0, 0), -1000010 - 3);
        e.is("SIZE", x.sheet(0, 0, -1), -10 - 4);
        e.is("a SHEET of no CELLS is something", x.sheet(0, 0, 0), 1);
        x.read(0, 0, 0, 1, 0);
        e.is("it has no CELL 0", x.torn(), 2);
    }

    // ---- promises 37 and 38

    private void keep() {
        e.sentence(37, "IMAGE k (0, 1) is all LINES, the road, THE TOLD PAIRING as they are: whether there was one (1, 0).");
        for (int k = 0; k < 2; k++) {
            HalfNumber x = new HalfNumber();
            e.is("IMAGE " + k + ", the first time", x.keep(k), 0);
            e.is("again", x.keep(k), 1);
            e.is("the other one", x.keep(1 - k), 0);
            e.is("of no LINES", x.back(k), 0);
        }
        keepFull();
        HalfNumber later = Made.some();
        later.keep(0);
        later.line(0, 7, 7, 0);
        e.is("the IMAGE does not change with what comes later", later.back(0), 7);
        later.sign(0, 0, 0, 9);
        e.is("nor with what is done when all is as it", later.back(0), 7);
        e.is("its SIGN", later.of(0, 0, 10), 1);
        later.drop(0, 0);
        e.is("an IMAGE in place of another", later.keep(0), 1);
        e.is("has what there is then", later.back(0), 6);
    }

    /** An image of full ends, when all that it has is gone. */
    private void keepFull() {
        HalfNumber x = Made.full();
        x.learn(17);
        int[] before = scene(x);
        x.keep(0);
        for (int k = 0; k < 10; k++) {
            x.drop(0, 0);
            x.drop(1, 0);
            x.tell(k, k);
        }
        x.road();
        e.is("of ten and ten", x.back(0), 20);
        int[] after = scene(x);
        for (int k = 0; k < before.length; k++) e.is("what it is of, number " + k, after[k], before[k]);
    }

    /** Ten lines of each end, the rules, some mixed, and the told pairing, which stays as it is. */
    private static int[] scene(HalfNumber x) {
        int[] seen = new int[60 + 10 + 7 + 10];
        int at = 0;
        for (int k = 0; k < 60; k++) seen[at++] = x.of(k / 30, k / 3 % 10, k % 3);
        for (int k = 0; k < 10; k++) seen[at++] = x.rule(k);
        for (int k = 1; k < 8; k++) seen[at++] = x.mixed(0, k);
        for (int k = 0; k < 10; k++) {
            seen[at] = x.tell(k, NONE);
            x.tell(k, seen[at++]);
        }
        return seen;
    }

    private void keepBad() {
        e.sentence(37, "BAD.");
        e.refusedBy("keep()", Made::some, Edges.outside(0, 1), HalfNumber::keep, BAD);
        e.refusedBy("keep() of no IMAGES", HalfNumber::new, Edges.outside(0, 1), HalfNumber::keep, BAD);
    }

    private void back() {
        e.sentence(38, "All is as IMAGE k: how many LINES both ENDS have.");
        HalfNumber x = Made.some();
        e.is("IMAGE 0", x.back(0), 6);
        e.is("its CLOCK", x.rule(9), -2);
        e.is("its LINES of IN", x.count(0), 3);
        e.is("its second LINE of OUT", x.of(1, 1, 0), 40);
        e.is("its told LINE 0", x.tell(0, 5), NONE);
        e.is("IMAGE 1", x.back(1), 6);
        e.is("its CLOCK", x.rule(9), 4);
        e.is("its second LINE of OUT", x.of(1, 1, 0), 52);
        e.is("its told LINE 0", x.tell(0, NONE), 1);
        e.is("its told LINE 9", x.tell(9, NONE), 3);
        e.is("THE TAPE stays", x.count(4), 8);
        e.is("SHEETS stay", x.count(5), 3);
        e.is("IMAGES stay", x.count(3), 2);
        e.is("torn() stays", x.torn(), 2);
        e.is("fault() stays", x.fault(), 2);
        HalfNumber full = Made.full();
        full.keep(1);
        full.drop(0, 0);
        e.is("of ten and ten", full.back(1), 20);
        e.is("they are full", full.line(0, 0, 0, 0), FULL);
    }

    private void backRefused() {
        e.sentence(38, "BAD; STATE: there is none.");
        e.refusedBy("back()", Made::some, Edges.outside(0, 1), HalfNumber::back, BAD);
        e.refusedBy("back() of no IMAGES", HalfNumber::new, Edges.outside(0, 1), HalfNumber::back, BAD);
        e.refusedBy("there is none", HalfNumber::new, new int[] {0, 1}, HalfNumber::back, STATE);
        for (int k = 0; k < 2; k++) {
            HalfNumber x = new HalfNumber();
            x.line(0, 5, 5, 5);
            x.keep(k);
            e.is("the other IMAGE", x.back(1 - k), STATE);
            e.is("the one that is kept", x.back(k), 1);
        }
    }

    // ---- promises 39 and 40

    private void sheet() {
        e.sentence(39, "A SHEET is a new row of CELLS 0: 1.");
        HalfNumber x = oneLine();
        for (int n : new int[] {0, 1, 63, 64}) {
            e.is("of " + n + " CELLS", x.sheet(0, 2, n), 1);
            e.is("so many", x.count(5), n);
            if (n > 0) e.is("the last one", x.lay(0, n - 1, 9), 1);
            e.is("none behind", x.lay(0, n, 9), LAY_INDEX);
        }
        x.lay(0, 0, 8);
        e.is("a new row", x.sheet(0, 2, 64), 1);
        e.is("CELL 0 is 0", cell(x, 0, 2, 0), 0);
        e.is("CELL 63 is 0", cell(x, 0, 2, 63), 0);
        x.lay(0, 0, 8);
        e.is("of another lane", x.sheet(0, 0, 2), 1);
        e.is("its CELL 0 is 0", cell(x, 0, 0, 0), 0);
        e.is("it is no row of INTS", cell(x, 0, 2, 0), -1000013);
        e.is("other SHEETS stay", x.lay(1, 0, 0), LAY_NULL);
    }

    private void sheetRefused() {
        e.sentence(39, "BAD: also n above 64; -14 (SIZE): n below 0.");
        e.refusedBy("k", Made::some, Edges.outside(0, 3), (x, v) -> x.sheet(v, 0, 1), BAD);
        e.refusedBy("lane", Made::some, Edges.outside(0, 2), (x, v) -> x.sheet(0, v, 1), BAD);
        e.refusedBy("n above 64", Made::some, new int[] {65, 66, Integer.MAX_VALUE}, (x, v) -> x.sheet(0, 0, v), BAD);
        e.refusedBy("n below 0", Made::some, new int[] {-1, -2, -64, Integer.MIN_VALUE}, (x, v) -> x.sheet(0, 0, v), SIZE);
        e.refused("k ahead of n below 0", Made::some, x -> x.sheet(4, 0, -1), BAD);
        e.refused("lane ahead of n below 0", Made::some, x -> x.sheet(0, 3, -1), BAD);
        e.refused("n below 0, of nothing", HalfNumber::new, x -> x.sheet(0, 0, -1), SIZE);
    }

    private void lay() {
        e.sentence(40, "CELL i of a SHEET becomes v (its lowest bits): 1.");
        HalfNumber x = oneLine();
        for (int lane = 0; lane < 3; lane++) {
            x.sheet(lane, lane, 64);
            e.is("CELL 0 of lane " + lane, x.lay(lane, 0, 7), 1);
            e.is("CELL 63 of lane " + lane, x.lay(lane, 63, -7), 1);
            e.is("CELL 0 is", cell(x, lane, lane, 0), 7);
            e.is("CELL 1 is", cell(x, lane, lane, 1), 0);
            e.is("CELL 62 is", cell(x, lane, lane, 62), 0);
            e.is("CELL 63 is", cell(x, lane, lane, 63), -7);
            x.lay(lane, 5, 0x1234ff80);
            e.is("0x1234ff80 in lane " + lane, cell(x, lane, lane, 5), lane < 2 ? -128 : OUT_OF_BOUNDS);
        }
        x.lay(1, 5, 0x7f0063);
        e.is("0x7f0063 as a SHORT", cell(x, 1, 1, 5), 99);
        x.lay(0, 5, 0x7f0163);
        e.is("0x7f0163 as a BYTE", cell(x, 0, 0, 5), 99);
        x.lay(2, 5, -999);
        e.is("-999 as an INT", cell(x, 2, 2, 5), -999);
    }

    private void layRefused() {
        e.sentence(40, "BAD: k; -10 less the FAULT: NULL, INDEX.");
        e.refusedBy("k", Made::some, Edges.outside(0, 3), (x, v) -> x.lay(v, 0, 5), BAD);
        e.refused("k, though i is none", Made::some, x -> x.lay(4, -1, 5), BAD);
        e.refused("NULL", Made::some, x -> x.lay(3, 0, 5), LAY_NULL);
        e.refused("NULL ahead of INDEX", Made::some, x -> x.lay(3, -1, 5), LAY_NULL);
        e.refusedBy("INDEX of three", Made::some, Edges.outside(0, 2), (x, v) -> x.lay(0, v, 5), LAY_INDEX);
        e.refusedBy("INDEX of seven", Made::some, Edges.outside(0, 6), (x, v) -> x.lay(1, v, 5), LAY_INDEX);
        e.is("the last of three", Made.some().lay(0, 2, 5), 1);
        e.is("the last of seven", Made.some().lay(1, 6, 5), 1);
    }

    // ---- promises 41 and 42

    private void read() {
        e.sentence(41, "n (0 to 10) LINES (minute, four SIGNS, COLOUR) are read of a SHEET taken as of a lane, six CELLS each from CELL f on, behind all of an END: how many came.");
        for (int n = 0; n <= 10; n++) {
            HalfNumber x = cells(0, 0, 64);
            readIs(n + " LINES from CELL 4 on", x, x.read(0, 1, 4, n, 0), n, 0, n);
        }
        HalfNumber edges = new HalfNumber();
        edges.line(1, 7, 7, 0);
        edges.sheet(2, 1, 64);
        int[] cells = {5, 999, 16, 0, 8, 9, 6, 0, 0, 1, 16, 0, 0};
        Made.lay(edges, 2, cells);
        e.is("two LINES from CELL 1 on", edges.read(2, 1, 1, 2, 1), 2);
        e.is("behind all", edges.of(1, 0, 0), 7);
        for (int i = 0; i < 2; i++) {
            int from = 1 + 6 * i;
            e.is("the minute of LINE " + i, edges.of(1, 1 + i, 0), cells[from]);
            for (int p = 0; p < 4; p++) e.is("the SIGN at PLACE " + p, edges.of(1, 1 + i, 10 + p), cells[from + 1 + p]);
            e.is("the COLOUR of LINE " + i, edges.of(1, 1 + i, 2), cells[from + 5]);
        }
        for (int lane = 0; lane < 3; lane++) {
            HalfNumber x = new HalfNumber();
            x.sheet(0, lane, 6);
            x.lay(0, 0, 127);
            e.is("of lane " + lane, x.read(0, lane, 0, 1, 0), 1);
            e.is("its minute", x.of(0, 0, 0), 127);
        }
        HalfNumber last = cells(0, 0, 64);
        e.is("the last six CELLS", last.read(0, 1, 58, 1, 0), 1);
        e.is("one CELL farther", last.read(0, 1, 59, 1, 0), 0);
        HalfNumber room = cells(8, 3, 64);
        e.is("as many as there is room for", room.read(0, 1, 0, 2, 0), 2);
        e.is("the other END stays", room.count(1), 3);
    }

    private void readOfTheMachine() {
        e.sentence(41, "What the machine refuses: those that were whole ahead come (its FAULT is asked by torn(); of n 0: 0, no FAULT, whatever the SHEET is).");
        for (int size = 0; size <= 64; size++) {
            HalfNumber x = cells(0, 0, size);
            int whole = Math.min(10, size / 6);
            readIs("ten LINES of " + size + " CELLS", x, x.read(0, 1, 0, 10, 0), whole, whole < 10 ? INDEX_FAULT : 0, whole);
        }
        for (int f = 0; f <= 65; f++) {
            HalfNumber x = cells(0, 0, 64);
            int whole = f > 64 ? 0 : Math.min(10, (64 - f) / 6);
            readIs("ten LINES from CELL " + f + " on", x, x.read(0, 1, f, 10, 0), whole, whole < 10 ? INDEX_FAULT : 0, whole);
        }
        for (int f : FAR) {
            HalfNumber x = cells(1, 0, 64);
            readIs("ten LINES from CELL " + f + " on", x, x.read(0, 1, f, 10, 0), 0, INDEX_FAULT, 1);
            readIs("no LINES from CELL " + f + " on", x, x.read(0, 1, f, 0, 0), 0, 0, 1);
        }
        HalfNumber x = cells(1, 0, 64);
        readIs("a SHEET of nothing", x, x.read(1, 1, 0, 1, 0), 0, NULL_FAULT, 1);
        readIs("n 0 of nothing", x, x.read(1, 1, 0, 0, 0), 0, 0, 1);
        readIs("nothing, far away", x, x.read(1, 1, -1, 10, 0), 0, NULL_FAULT, 1);
        readIs("another lane", x, x.read(0, 0, 0, 1, 0), 0, CAST_FAULT, 1);
        readIs("n 0 of another lane", x, x.read(0, 2, 0, 0, 0), 0, 0, 1);
        readIs("another lane, far away", x, x.read(0, 2, 99, 1, 0), 0, CAST_FAULT, 1);
        readIs("no CELLS, n 0", x, x.read(0, 1, 64, 0, 0), 0, 0, 1);
    }

    private void readBad() {
        e.sentence(41, "BAD: k, lane, n, end;");
        e.refusedBy("k", Made::some, Edges.outside(0, 3), (x, v) -> x.read(v, 1, 0, 1, 0), BAD);
        e.refusedBy("lane", Made::some, Edges.outside(0, 2), (x, v) -> x.read(1, v, 0, 1, 0), BAD);
        e.refusedBy("n", Made::some, Edges.outside(0, 10), (x, v) -> x.read(1, 1, 0, v, 0), BAD);
        e.refusedBy("end", Made::some, Edges.outside(0, 1), (x, v) -> x.read(1, 1, 0, 1, v), BAD);
        e.refusedBy("k, n 0", Made::some, Edges.outside(0, 3), (x, v) -> x.read(v, 1, 0, 0, 0), BAD);
        e.refusedBy("lane, n 0", Made::some, Edges.outside(0, 2), (x, v) -> x.read(1, v, 0, 0, 0), BAD);
        e.refusedBy("end, n 0", Made::some, Edges.outside(0, 1), (x, v) -> x.read(1, 1, 0, 0, v), BAD);
        e.refusedBy("n, of nothing", Made::some, Edges.outside(0, 10), (x, v) -> x.read(3, 1, -1, v, 0), BAD);
    }

    private void readRefused() {
        e.sentence(41, "-20 less i (0 on): LINE i, whole, is refused by line() as BAD; FULL: there is no room for LINE i: then none came;");
        for (int i = 0; i < 10; i++) {
            int cell = 6 * i;
            e.refused("LINE " + i + " is BAD", () -> laid(cells(0, 2, 60), cell, -1), x -> x.read(0, 1, 0, 10, 0), -20 - cell / 6);
            e.refused("LINE " + i + " has no room", () -> cells(10 - cell / 6, 2, 60), x -> x.read(0, 1, 0, cell / 6 + 1, 0), FULL);
            HalfNumber fits = cells(10 - i, 2, 60);
            e.is("room for " + i, fits.read(0, 1, 0, i, 0), i);
        }
        int[] most = {999, 16, 16, 16, 16, 6};
        for (int c = 0; c < 6; c++) {
            int cell = c;
            for (int v : new int[] {-1, most[c] + 1, -32768, 32767}) {
                e.refused("CELL " + c + " of " + v, () -> laid(cells(1, 0, 6), cell, v), x -> x.read(0, 1, 0, 1, 0), -20);
            }
            e.is("CELL " + c + " of the most", laid(cells(1, 0, 6), c, most[c]).read(0, 1, 0, 1, 0), 1);
            e.is("CELL " + c + " of 0", laid(cells(1, 0, 6), c, 0).read(0, 1, 0, 1, 0), 1);
        }
        // four signs that would be a plate if they were carried over to the next place
        HalfNumber carried = cells(0, 0, 6);
        Made.lay(carried, 0, 0, 1, 17, 0, 0, 0);
        e.is("a SIGN of 17 is not one of the next PLACE", carried.read(0, 1, 0, 1, 0), -20);
        Made.lay(carried, 0, 0, 1, -1, 0, 0, 0);
        e.is("a SIGN of -1 neither", carried.read(0, 1, 0, 1, 0), -20);
    }

    private void readFirstMet() {
        e.sentence(41, "the first met.");
        e.refused("LINE 0 is BAD and has no room: BAD", () -> laid(cells(10, 0, 12), 0, -1), x -> x.read(0, 1, 0, 2, 0), -20);
        e.refused("LINE 0 has no room, LINE 1 is BAD: FULL", () -> laid(cells(10, 0, 12), 6, -1), x -> x.read(0, 1, 0, 2, 0), FULL);
        e.refused("LINE 0 is BAD, LINE 1 has no room: BAD", () -> laid(cells(9, 0, 12), 5, 7), x -> x.read(0, 1, 0, 2, 0), -20);
        e.refused("LINE 1 is BAD and has no room: BAD", () -> laid(cells(9, 0, 12), 11, 7), x -> x.read(0, 1, 0, 2, 0), -21);
        e.refused("LINES 1 and 2 are BAD", () -> laid(laid(cells(0, 0, 18), 6, -1), 12, -1), x -> x.read(0, 1, 0, 3, 0), -21);
        e.refused("LINE 1 is BAD, LINE 2 is not whole: BAD", () -> laid(cells(0, 0, 17), 6, -1), x -> x.read(0, 1, 0, 3, 0), -21);
        e.refused("LINE 1 has no room, LINE 2 is not whole: FULL", () -> cells(9, 0, 17), x -> x.read(0, 1, 0, 3, 0), FULL);
        HalfNumber torn = laid(cells(0, 0, 17), 12, -1);
        readIs("LINE 2 is not whole, whatever it has", torn, torn.read(0, 1, 0, 3, 0), 2, INDEX_FAULT, 2);
        HalfNumber full = cells(9, 0, 11);
        readIs("LINE 1 is not whole and has no room", full, full.read(0, 1, 0, 2, 0), 1, INDEX_FAULT, 10);
        readIs("LINE 0 is not whole and has no room", full, full.read(0, 1, 6, 1, 0), 0, INDEX_FAULT, 10);
        readIs("nothing, and no room", full, full.read(3, 1, 0, 1, 0), 0, NULL_FAULT, 10);
        readIs("another lane, and no room", full, full.read(0, 2, 0, 1, 0), 0, CAST_FAULT, 10);
        readIs("n 0, and no room", full, full.read(0, 1, 0, 0, 0), 0, 0, 10);
    }

    private void torn() {
        e.sentence(42, "The FAULT of the latest read() that answered 0 or more; 0 (one that is refused leaves it).");
        HalfNumber x = cells(9, 0, 12);
        e.is("at first", x.torn(), 0);
        x.read(1, 1, 0, 1, 0);
        e.is("NULL", x.torn(), NULL_FAULT);
        x.read(0, 0, 0, 1, 0);
        e.is("CAST", x.torn(), CAST_FAULT);
        x.read(0, 1, 7, 1, 0);
        e.is("INDEX", x.torn(), INDEX_FAULT);
        e.is("BAD", x.read(4, 1, 0, 1, 0), BAD);
        e.is("leaves it", x.torn(), INDEX_FAULT);
        e.is("FULL", x.read(0, 1, 0, 2, 0), FULL);
        e.is("leaves it", x.torn(), INDEX_FAULT);
        x.lay(0, 0, -1);
        e.is("a BAD LINE", x.read(0, 1, 0, 1, 0), -20);
        e.is("leaves it", x.torn(), INDEX_FAULT);
        x.lay(0, 99, 0);
        x.lay(3, 0, 0);
        x.sheet(0, 0, -1);
        x.prices(3, 0, 0, 0);
        x.road();
        x.keep(0);
        x.back(0);
        e.is("what other calls find leaves it", x.torn(), INDEX_FAULT);
        e.is("a LINE that comes", x.read(0, 1, 6, 1, 0), 1);
        e.is("no FAULT", x.torn(), 0);
        x.read(0, 0, 0, 1, 0);
        e.is("CAST again", x.torn(), CAST_FAULT);
        x.read(1, 2, -1, 0, 1);
        e.is("n 0: no FAULT", x.torn(), 0);
    }

    // ---- promise 43

    private void count() {
        e.sentence(43, "How many: 0, 1 LINES of IN, OUT, 2 PAIRS that MAY be, 3 IMAGES, 4 bytes on THE TAPE, 5 CELLS of SHEET 0 (NONE: nothing).");
        HalfNumber x = new HalfNumber();
        int[] none = {0, 0, 0, 0, 0, NONE};
        for (int what = 0; what < 6; what++) e.is("count(" + what + ") of a new object", x.count(what), none[what]);
        HalfNumber ten = Made.alike("", 10, 10, 60);
        e.is("LINES of IN", ten.count(0), 10);
        e.is("LINES of OUT", ten.count(1), 10);
        e.is("PAIRS that MAY be", ten.count(2), 100);
        ten.setClock(-1);
        e.is("PAIRS that TOOK too much", ten.count(2), 0);
        e.is("ten LINES of IN alone", Made.alike("", 10, 0, 30).count(2), 0);
        for (int k = 0; k < 2; k++) {
            ten.keep(k);
            e.is("IMAGES", ten.count(3), k + 1);
            ten.keep(k);
            e.is("IMAGES, the same again", ten.count(3), k + 1);
        }
        e.is("the second IMAGE alone", secondImageAlone().count(3), 1);
        e.is("bytes of a full TAPE", Made.withTape(320).count(4), 320);
        e.is("bytes of a cut one", Made.withTape(313).count(4), 313);
        int[] sizes = {0, 1, 64};
        for (int size : sizes) {
            ten.sheet(0, 2, size);
            e.is("CELLS of SHEET 0", ten.count(5), size);
        }
        ten.sheet(0, 2, 65);
        e.is("a refused SHEET leaves it", ten.count(5), 64);
        x.sheet(1, 0, 5);
        e.is("SHEET 0 has nothing, SHEET 1 something", x.count(5), NONE);
    }

    private static HalfNumber secondImageAlone() {
        HalfNumber x = new HalfNumber();
        x.keep(1);
        return x;
    }

    private void countBad() {
        e.sentence(43, "BAD.");
        e.refusedBy("count()", Made::some, Edges.outside(0, 5), HalfNumber::count, BAD);
        e.refusedBy("count() of a new object", HalfNumber::new, Edges.outside(0, 5), HalfNumber::count, BAD);
    }
}
