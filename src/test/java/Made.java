import java.util.ArrayList;
import java.util.List;

/** Objects that tests of edges begin with, and all that can be seen of one. */
final class Made {
    private static final int NONE = Edges.NONE;
    private static final int MOST_CALLS = 512;
    /** No more than 110 to make an object and to ask one thing of it, 40 to count and drop lines while all is looked at. */
    private static final int UNSEEN_CALLS = 150;

    private Made() { }

    /** Something of everything: lines, a road, a told pairing, both images, three sheets, a tape, a fault, a torn read. */
    static HalfNumber some() {
        HalfNumber x = new HalfNumber();
        Due.road(x, "minutes 5 70 31 2; mixed a b 3; mixed c d 0; doubt 6; unread 1; colour 7; off 13; joined 11; early 2;");
        x.line(0, 10, Due.plate("abcd"), 1);
        x.line(0, 12, Due.plate("aBc."), 2);
        x.line(0, 15, Due.plate("hhhh"), 0);
        x.line(1, 41, Due.plate("abcd"), 1);
        x.line(1, 40, Due.plate("abce"), 0);
        x.line(1, 52, Due.plate("hhhH"), 3);
        x.tell(2, 2);
        x.keep(0);
        x.setClock(4);
        x.drop(1, 1);
        x.tell(0, 1);
        x.tell(9, 3);
        x.line(1, 44, Due.plate("bbcd"), 6);
        x.keep(1);
        x.tell(1, 0);
        x.setClock(-3);
        x.sheet(0, 0, 3);
        lay(x, 0, 1, -2, 3);
        x.sheet(1, 1, 7);
        lay(x, 1, 30, 1, 2, 3, 4, 5, 9);
        x.sheet(2, 2, 2);
        lay(x, 2, 99, -99);
        x.read(1, 1, 0, 2, 0);
        Due.road(x, "off");
        x.feed(0x6c61746520373b20L);
        return x;
    }

    /** As some, and both ends have ten lines. */
    static HalfNumber full() {
        HalfNumber x = some();
        for (int end = 0; end < 2; end++) {
            for (int k = end == 0 ? 4 : 3; k < 10; k++) x.line(end, 30 * end + k, Due.plate("aaaa"), k % 7);
        }
        return x;
    }

    /** As some, and the tape has so many bytes, blanks behind what it had. */
    static HalfNumber withTape(int bytes) {
        HalfNumber x = some();
        for (int k = 1; k < 40; k++) x.feed(0x2020202020202020L);
        x.end(bytes);
        return x;
    }

    static void lay(HalfNumber x, int k, int... cells) {
        for (int c = 0; c < cells.length; c++) x.lay(k, c, cells[c]);
    }

    /** Lines of no colour, told by their plates and minutes. */
    static HalfNumber lines(String road, String[] in, int[] inMinutes, String[] out, int[] outMinutes) {
        HalfNumber x = new HalfNumber();
        if (Due.road(x, road) < 0) throw new IllegalArgumentException(road);
        for (int i = 0; i < in.length; i++) x.line(0, inMinutes[i], Due.plate(in[i]), 0);
        for (int j = 0; j < out.length; j++) x.line(1, outMinutes[j], Due.plate(out[j]), 0);
        return x;
    }

    /** Lines of the same plate; every pair took so many minutes. */
    static HalfNumber alike(String road, int ins, int outs, int minutes) {
        HalfNumber x = new HalfNumber();
        if (Due.road(x, road) < 0) throw new IllegalArgumentException(road);
        for (int i = 0; i < ins; i++) x.line(0, 0, Due.plate("aaaa"), 0);
        for (int j = 0; j < outs; j++) x.line(1, minutes, Due.plate("aaaa"), 0);
        return x;
    }

    /** Two lines that take 30 minutes. */
    static HalfNumber pair(String road, String in, int inColour, String out, int outColour) {
        HalfNumber x = new HalfNumber();
        if (Due.road(x, road) < 0) throw new IllegalArgumentException(road);
        x.line(0, 0, Due.plate(in), inColour);
        x.line(1, 30, Due.plate(out), outColour);
        return x;
    }

    /** Where two objects differ; empty: nowhere. What they had is used up by looking. */
    static String firstChange(HalfNumber x, HalfNumber y) {
        List<String> ofX = all(x);
        List<String> ofY = all(y);
        for (int k = 0; k < Math.min(ofX.size(), ofY.size()); k++) {
            if (!ofX.get(k).equals(ofY.get(k))) return ofX.get(k) + " (was " + ofY.get(k) + ")";
        }
        return ofX.size() == ofY.size() ? "" : "how much there is to see";
    }

    private static List<String> all(HalfNumber x) {
        List<String> seen = new ArrayList<>();
        see(seen, "fault", x.fault());
        see(seen, "torn", x.torn());
        for (int what = 0; what < 6; what++) see(seen, "count " + what, x.count(what));
        seeScene(seen, x, true);
        seeTape(seen, x);
        seeSheets(seen, x);
        for (int k = 0; k < 2; k++) {
            see(seen, "image " + k, x.back(k));
            seeScene(seen, x, false);
        }
        if (seen.size() + UNSEEN_CALLS > MOST_CALLS) throw new IllegalStateException(seen.size() + " calls are too many for one object");
        return seen;
    }

    private static void see(List<String> seen, String what, long got) {
        seen.add(what + " " + got);
    }

    private static void seeScene(List<String> seen, HalfNumber x, boolean allMixed) {
        for (int what = 0; what < 10; what++) see(seen, "rule " + what, x.rule(what));
        for (int a = 0; a < (allMixed ? 8 : 3); a++) {
            for (int b = 0; b < (allMixed ? 8 : 4); b++) if (a != b) see(seen, "mixed " + a + " " + b, x.mixed(a, b));
        }
        for (int end = 0; end < 2; end++) {
            int lines = Math.min(x.count(end), 10);
            for (int i = 0; i < lines; i++) {
                for (int what = 0; what < 3; what++) see(seen, "line " + i + " of end " + end + ", " + what, x.of(end, i, what));
            }
        }
        for (int i = 0; i < 10; i++) see(seen, "told " + i, x.tell(i, NONE));
    }

    private static void seeTape(List<String> seen, HalfNumber x) {
        see(seen, "the tape's road", x.road());
        see(seen, "the tape's fault", x.fault());
        see(seen, "the tape's clock", x.rule(9));
    }

    /** A price of the only line there is tells a cell, if it is no more than off. */
    private static void seeSheets(List<String> seen, HalfNumber x) {
        for (int k = 0; k < 20; k++) x.drop(k / 10, 0);
        Due.road(x, "off 99;");
        x.line(0, 0, 0, 0);
        for (int k = 0; k < 4; k++) {
            for (int lane = 0; lane < 3; lane++) {
                int first = x.prices(k, lane, 0, 3);
                see(seen, "sheet " + k + " as of lane " + lane, first);
                int cell = first;
                for (int f = 1; f < 64 && cell > -1000010; f++) {
                    cell = x.prices(k, lane, f, 3);
                    see(seen, "cell " + f + " of sheet " + k, cell);
                }
            }
        }
    }
}
