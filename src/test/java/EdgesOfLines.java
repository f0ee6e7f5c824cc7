/** Promises 9 to 12: line, drop, of, sign. */
final class EdgesOfLines {
    private static final int BAD = Edges.BAD, FULL = Edges.FULL;
    private final Edges e;

    EdgesOfLines(Edges e) {
        this.e = e;
    }

    void all() {
        line();
        lineRefused();
        drop();
        dropBad();
        of();
        ofBad();
        sign();
        signBad();
    }

    private void line() {
        e.sentence(9, "A LINE comes behind all of an END: its number.");
        HalfNumber x = new HalfNumber();
        e.is("the least of all", x.line(0, 0, 0, 0), 0);
        e.is("the most of all", x.line(0, 999, 83520, 6), 1);
        e.is("the other END begins anew", x.line(1, 5, 6, 3), 0);
        int[][] due = {{0, 0, 0}, {999, 83520, 6}};
        for (int i = 0; i < 2; i++) for (int what = 0; what < 3; what++) e.is("of LINE " + i, x.of(0, i, what), due[i][what]);
        for (int k = 2; k < 10; k++) e.is("LINE " + k, x.line(0, k, k, k % 7), k);
        e.is("the tenth stands last", x.of(0, 9, 0), 9);
        e.is("LINES of IN", x.count(0), 10);
        e.is("LINES of OUT", x.count(1), 1);
    }

    private void lineRefused() {
        e.sentence(9, "BAD; FULL.");
        e.refusedBy("an END", Made::some, Edges.outside(0, 1), (x, v) -> x.line(v, 0, 0, 0), BAD);
        for (int k = 0; k < 2; k++) {
            int end = k;
            e.refusedBy("a minute at END " + end, Made::some, Edges.outside(0, 999), (x, v) -> x.line(end, v, 0, 0), BAD);
            e.refusedBy("a plate at END " + end, Made::some, Edges.outside(0, 83520), (x, v) -> x.line(end, 0, v, 0), BAD);
            e.refusedBy("a COLOUR at END " + end, Made::some, Edges.outside(0, 6), (x, v) -> x.line(end, 0, 0, v), BAD);
            e.refused("an eleventh LINE at END " + end, Made::full, x -> x.line(end, 999, 83520, 6), FULL);
            e.refusedBy("BAD ahead of FULL: a minute at END " + end, Made::full, Edges.outside(0, 999), (x, v) -> x.line(end, v, 0, 0), BAD);
            e.refusedBy("BAD ahead of FULL: a plate at END " + end, Made::full, Edges.outside(0, 83520), (x, v) -> x.line(end, 0, v, 0), BAD);
            e.refusedBy("BAD ahead of FULL: a COLOUR at END " + end, Made::full, Edges.outside(0, 6), (x, v) -> x.line(end, 0, 0, v), BAD);
        }
        HalfNumber y = Made.full();
        y.drop(0, 9);
        e.is("a tenth LINE", y.line(0, 999, 83520, 6), 9);
        e.is("an eleventh", y.line(0, 999, 83520, 6), FULL);
    }

    private void drop() {
        e.sentence(10, "A LINE goes, those behind it move up: how many that END has then.");
        for (int gone = 0; gone < 10; gone++) {
            HalfNumber x = new HalfNumber();
            for (int k = 0; k < 10; k++) {
                x.line(0, k, 1000 * k + 7, k % 7);
                x.line(1, k, 0, 0);
            }
            e.is("drop(0, " + gone + ")", x.drop(0, gone), 9);
            for (int i = 0; i < 9; i++) {
                int was = i < gone ? i : i + 1;
                e.is("the minute of LINE " + i, x.of(0, i, 0), was);
                e.is("the plate of LINE " + i, x.of(0, i, 1), 1000 * was + 7);
                e.is("the COLOUR of LINE " + i, x.of(0, i, 2), was % 7);
            }
            e.is("LINE 9 is gone", x.of(0, 9, 0), BAD);
            e.is("the other END has", x.count(1), 10);
        }
        HalfNumber y = new HalfNumber();
        y.line(1, 0, 0, 0);
        e.is("the only LINE", y.drop(1, 0), 0);
        e.is("a new one is LINE 0", y.line(1, 1, 1, 1), 0);
    }

    private void dropBad() {
        e.sentence(10, "BAD.");
        e.refusedBy("an END", Made::some, Edges.outside(0, 1), (x, v) -> x.drop(v, 0), BAD);
        e.refusedBy("a LINE of IN", Made::some, Edges.outside(0, 3), (x, v) -> x.drop(0, v), BAD);
        e.refusedBy("a LINE of OUT", Made::some, Edges.outside(0, 2), (x, v) -> x.drop(1, v), BAD);
        e.refusedBy("a LINE of ten", Made::full, Edges.outside(0, 9), (x, v) -> x.drop(1, v), BAD);
        e.refused("LINE 0 of none", HalfNumber::new, x -> x.drop(0, 0), BAD);
        e.is("the last LINE of IN", Made.some().drop(0, 3), 3);
        e.is("the last LINE of ten", Made.full().drop(1, 9), 9);
    }

    private void of() {
        e.sentence(11, "Of a LINE: 0 the minute, 1 the plate, 2 the COLOUR; 10 and p: the SIGN at PLACE p.");
        HalfNumber x = new HalfNumber();
        x.line(1, 999, Due.plate("aHh."), 6);
        e.is("the minute", x.of(1, 0, 0), 999);
        e.is("the plate", x.of(1, 0, 1), 4913 + 16 * 289 + 8 * 17);
        e.is("the COLOUR", x.of(1, 0, 2), 6);
        int[] signs = {1, 16, 8, 0};
        for (int p = 0; p < 4; p++) e.is("the SIGN at PLACE " + p, x.of(1, 0, 10 + p), signs[p]);
    }

    private void ofBad() {
        e.sentence(11, "BAD.");
        e.refusedBy("an END", Made::some, Edges.outside(0, 1), (x, v) -> x.of(v, 0, 0), BAD);
        e.refusedBy("a LINE of IN", Made::some, Edges.outside(0, 3), (x, v) -> x.of(0, v, 0), BAD);
        e.refusedBy("a LINE of OUT", Made::some, Edges.outside(0, 2), (x, v) -> x.of(1, v, 10), BAD);
        e.refusedBy("what, about 0 to 2", Made::some, Edges.outside(0, 2), (x, v) -> x.of(0, 0, v), BAD);
        e.refusedBy("what, about 10 to 13", Made::some, Edges.outside(10, 13), (x, v) -> x.of(0, 0, v), BAD);
        for (int what = 3; what < 10; what++) e.is("what " + what, Made.some().of(0, 0, what), BAD);
        e.refused("LINE 0 of none", HalfNumber::new, x -> x.of(1, 0, 0), BAD);
    }

    private void sign() {
        e.sentence(12, "The SIGN at a PLACE of a LINE becomes s (0 to 16): what it was.");
        HalfNumber x = Made.full();
        x.sign(1, 9, 0, 7);
        x.sign(1, 9, 3, 7);
        int plate = x.of(1, 8, 1);
        for (int s = 0; s <= 16; s++) {
            e.is("PLACE 0 becomes " + s, x.sign(1, 9, 0, s), s == 0 ? 7 : s - 1);
            e.is("PLACE 3 becomes " + (16 - s), x.sign(1, 9, 3, 16 - s), s == 0 ? 7 : 17 - s);
            e.is("they are", x.of(1, 9, 10) * 100 + x.of(1, 9, 13), s * 100 + 16 - s);
            e.is("PLACES 1 and 2 stay", x.of(1, 9, 11) * 100 + x.of(1, 9, 12), 101);
        }
        e.is("the LINE ahead stays", x.of(1, 8, 1), plate);
        e.is("a plate", x.of(1, 9, 1), 16 * 4913 + 289 + 17);
    }

    private void signBad() {
        e.sentence(12, "BAD.");
        e.refusedBy("an END", Made::some, Edges.outside(0, 1), (x, v) -> x.sign(v, 0, 0, 5), BAD);
        e.refusedBy("a LINE of IN", Made::some, Edges.outside(0, 3), (x, v) -> x.sign(0, v, 0, 5), BAD);
        e.refusedBy("a LINE of OUT", Made::some, Edges.outside(0, 2), (x, v) -> x.sign(1, v, 0, 5), BAD);
        e.refusedBy("a PLACE", Made::some, Edges.outside(0, 3), (x, v) -> x.sign(0, 1, v, 5), BAD);
        e.refusedBy("a SIGN", Made::some, Edges.outside(0, 16), (x, v) -> x.sign(0, 1, 1, v), BAD);
        e.refused("a LINE of none", HalfNumber::new, x -> x.sign(0, 0, 0, 0), BAD);
    }
}
