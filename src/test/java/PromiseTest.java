/** Each promise of the document: ordinary calls, the edges it names, wrong numbers. */
public final class PromiseTest {
    private static final int BAD = -1, STATE = -2, FULL = -3, NONE = -4;
    private static final Due DUE = new Due("PromiseTest");

    public static void main(String[] args) {
        newObject();
        feed();
        end();
        roadTaken();
        roadFaults();
        fault();
        rule();
        mixed();
        setClock();
        line();
        drop();
        of();
        sign();
        took();
        cost();
        why();
        best();
        first();
        sure();
        share();
        ifMust();
        alone();
        many();
        ways();
        tell();
        adopt();
        judge();
        prices();
        times();
        clock();
        passed();
        reads();
        blame();
        learn();
        enough();
        round();
        cars();
        keepAndBack();
        sheet();
        lay();
        read();
        torn();
        count();
        DUE.close();
    }

    private static void due(int promise, String what, long got, long want) {
        DUE.is("promise " + promise + ", " + what, got, want);
    }

    private static HalfNumber lines(String[] in, int[] inMinutes, String[] out, int[] outMinutes) {
        HalfNumber x = new HalfNumber();
        for (int i = 0; i < in.length; i++) x.line(0, inMinutes[i], Due.plate(in[i]), 0);
        for (int j = 0; j < out.length; j++) x.line(1, outMinutes[j], Due.plate(out[j]), 0);
        return x;
    }

    private static HalfNumber alike(int ins, int outs) {
        HalfNumber x = new HalfNumber();
        for (int i = 0; i < ins; i++) x.line(0, 0, Due.plate("aaaa"), 0);
        for (int j = 0; j < outs; j++) x.line(1, 30, Due.plate("aaaa"), 0);
        return x;
    }

    private static void newObject() {
        HalfNumber x = new HalfNumber();
        int[] first = {10, 60, 30, 1, 4, 2, 5, 12, 12, 0};
        for (int k = 0; k < 10; k++) due(1, "rule " + k, x.rule(k), first[k]);
        for (int a = 0; a < 8; a++) for (int b = 0; b < 8; b++) if (a != b) due(1, "mixed", x.mixed(a, b), NONE);
        int[] counts = {0, 0, 0, 0, 0, NONE};
        for (int k = 0; k < 6; k++) due(1, "count " + k, x.count(k), counts[k]);
        for (int k = 0; k < 4; k++) due(1, "sheet " + k, x.lay(k, 0, 0), -11);
        for (int i = 0; i < 10; i++) due(1, "told " + i, x.tell(i, NONE), NONE);
        due(1, "fault", x.fault(), 0);
        due(1, "torn", x.torn(), 0);
    }

    private static void feed() {
        HalfNumber x = new HalfNumber();
        for (int k = 1; k <= 40; k++) due(2, "feed " + k, x.feed(0x2020202020202020L), 8 * k);
        due(2, "feed beyond", x.feed(0), FULL);
        x.end(313);
        due(2, "feed of 313", x.feed(0), FULL);
        due(2, "nothing came", x.count(4), 313);
        x.end(312);
        due(2, "feed of 312", x.feed(0x2020202020202020L), 320);
        due(2, "all blanks", x.road(), 0);
        x.feed(0x6f666620373b2020L);
        due(2, "highest first", x.road(), 1);
        due(2, "off 7", x.rule(7), 7);
        x.feed(0xff66662037203b20L);
        due(2, "a byte above 127 is no token", x.road(), -10);
        due(2, "its fault", x.fault(), 1);
    }

    private static void end() {
        HalfNumber x = new HalfNumber();
        due(3, "end 0", x.end(0), 0);
        due(3, "end 1", x.end(1), BAD);
        due(3, "end -1", x.end(-1), BAD);
        x.feed(0);
        due(3, "end 9", x.end(9), BAD);
        due(3, "still", x.count(4), 8);
        due(3, "end 8", x.end(8), 8);
        due(3, "end 3", x.end(3), 8);
        due(3, "end 4", x.end(4), BAD);
        due(3, "end max", x.end(Integer.MAX_VALUE), BAD);
        due(3, "end min", x.end(Integer.MIN_VALUE), BAD);
        due(3, "end 0 again", x.end(0), 3);
        due(3, "empty", x.count(4), 0);
    }

    private static void roadTaken() {
        HalfNumber x = new HalfNumber();
        due(4, "all items", Due.road(x, "minutes 0 500 500 9;mixed a h 50;mixed h a 0;doubt 50;unread 50;colour 50;off 99;joined 99;early 99;"), 9);
        int[] told = {0, 500, 500, 9, 50, 50, 50, 99, 99, -99};
        for (int k = 0; k < 10; k++) due(4, "rule " + k, x.rule(k), told[k]);
        due(4, "mixed a h", x.mixed(0, 7), 50);
        due(4, "mixed h a", x.mixed(7, 0), 0);
        due(4, "tape empty", x.count(4), 0);
        x.line(0, 1, 2, 3);
        x.tell(0, 5);
        x.keep(0);
        x.sheet(0, 0, 3);
        due(4, "what no item tells is as at first", Due.road(x, "  late007 ;  "), 1);
        int[] first = {10, 60, 30, 1, 4, 2, 5, 12, 12, 7};
        for (int k = 0; k < 10; k++) due(4, "again rule " + k, x.rule(k), first[k]);
        due(4, "mixed gone", x.mixed(0, 7), NONE);
        due(4, "lines stay", x.count(0), 1);
        due(4, "images stay", x.count(3), 1);
        due(4, "sheets stay", x.count(5), 3);
        due(4, "told stays", x.tell(0, NONE), 5);
        x.setClock(9);
        due(4, "empty road", x.road(), 0);
        due(4, "the clock too", x.rule(9), 0);
        due(4, "no blanks needed", Due.road(x, "mixed a b5;off12;"), 2);
        due(4, "mixed a b", x.mixed(0, 1), 5);
        x.setClock(-5);
        due(4, "a fault", Due.road(x, "off 3; late"), -21);
        due(4, "tape empty by a fault, too", x.count(4), 0);
        due(4, "told stays by a fault", x.rule(7), 12);
        due(4, "clock stays by a fault", x.rule(9), -5);
        due(4, "mixed stays by a fault", x.mixed(0, 1), 5);
    }

    private static void roadFaults() {
        roadFault("!", 1, 0);
        roadFault("  \t", 1, 2);
        roadFault("Off 1;", 1, 0);
        roadFault("off 0012;", 1, 4);
        roadFault("off 1,", 1, 5);
        roadFault("off 1 1234", 1, 6);
        roadFault("off -1;", 1, 4);
        roadFault(";", 2, 0);
        roadFault("12;", 2, 0);
        roadFault("1234;", 1, 0);
        roadFault("minute 1;", 2, 0);
        roadFault("offjoined 1;", 2, 0);
        roadFault("off", 2, 3);
        roadFault("off   ", 2, 6);
        roadFault("off 1", 2, 5);
        roadFault("off 1  ", 2, 7);
        roadFault("off ;", 2, 4);
        roadFault("off a;", 2, 4);
        roadFault("off 1 2;", 2, 6);
        roadFault("off 1 off 2;", 2, 6);
        roadFault("off 1;;", 2, 6);
        roadFault("mixed 1 b 2;", 2, 6);
        roadFault("mixed a ;", 2, 8);
        roadFault("mixed a b c;", 2, 10);
        roadFault("off 100;", 3, 4);
        roadFault("joined 100;", 3, 7);
        roadFault("doubt 51;", 3, 6);
        roadFault("unread 51;", 3, 7);
        roadFault("colour 51;", 3, 7);
        roadFault("late 100;", 3, 5);
        roadFault("early 100!", 3, 6);
        roadFault("minutes 501 1 1 1;", 3, 8);
        roadFault("minutes 5 501 1 1;", 3, 10);
        roadFault("minutes 5 4 1 1;", 3, 10);
        roadFault("minutes 5 7 4 1;", 3, 12);
        roadFault("minutes 5 7 8 1;", 3, 12);
        roadFault("minutes 5 7 6 10;", 3, 14);
        roadFault("mixed a i 1;", 3, 8);
        roadFault("mixed ab c 1;", 3, 6);
        roadFault("mixed a a 1;", 3, 8);
        roadFault("mixed a b 51;", 3, 10);
        roadFault("off 1;off", 4, 6);
        roadFault("minutes 1 2 2 0; minutes", 4, 17);
        roadFault("mixed a b 1; mixed a b", 4, 21);
        roadFault("late 1; early 1;", 4, 8);
        roadFault("early 0; early 1;", 4, 9);
        roadFault("early 0; late 1;", 4, 9);
        HalfNumber x = new HalfNumber();
        due(4, "mixed both ways", Due.road(x, "mixed a b 1; mixed b a 2;"), 2);
        due(4, "three figures", Due.road(x, "off 099;"), 1);
        due(4, "off 99", x.rule(7), 99);
    }

    private static void roadFault(String text, int kind, int place) {
        HalfNumber x = new HalfNumber();
        due(4, "road of '" + text + "'", Due.road(x, text), -10 - place);
        due(5, "fault of '" + text + "'", x.fault(), kind);
    }

    private static void fault() {
        HalfNumber x = new HalfNumber();
        due(5, "at first", x.fault(), 0);
        Due.road(x, "off 100;");
        due(5, "a fault", x.fault(), 3);
        x.feed(0);
        due(5, "until the next road", x.fault(), 3);
        x.end(0);
        x.road();
        due(5, "none by a road that is taken", x.fault(), 0);
    }

    private static void rule() {
        HalfNumber x = new HalfNumber();
        Due.road(x, "minutes 1 9 5 2; doubt 3; unread 4; colour 6; off 7; joined 8; early 11;");
        int[] told = {1, 9, 5, 2, 3, 4, 6, 7, 8, -11};
        for (int k = 0; k < 10; k++) due(6, "rule " + k, x.rule(k), told[k]);
        due(6, "rule -1", x.rule(-1), -1000);
        due(6, "rule 10", x.rule(10), -1000);
        due(6, "rule min", x.rule(Integer.MIN_VALUE), -1000);
    }

    private static void mixed() {
        HalfNumber x = new HalfNumber();
        Due.road(x, "mixed c d 7;");
        due(7, "c d", x.mixed(2, 3), 7);
        due(7, "d c", x.mixed(3, 2), NONE);
        for (int k = 0; k < 8; k++) due(7, "alike", x.mixed(k, k), BAD);
        due(7, "-1", x.mixed(-1, 0), BAD);
        due(7, "8", x.mixed(8, 0), BAD);
        due(7, "y -1", x.mixed(0, -1), BAD);
        due(7, "y 8", x.mixed(0, 8), BAD);
    }

    private static void setClock() {
        HalfNumber x = new HalfNumber();
        due(8, "99", x.setClock(99), 0);
        due(8, "-99", x.setClock(-99), 99);
        due(8, "100", x.setClock(100), -1000);
        due(8, "-100", x.setClock(-100), -1000);
        due(8, "still", x.rule(9), -99);
        due(8, "5", x.setClock(5), -99);
    }

    private static void line() {
        HalfNumber x = new HalfNumber();
        due(9, "first", x.line(0, 999, 83520, 6), 0);
        due(9, "other end", x.line(1, 0, 0, 0), 0);
        due(9, "end -1", x.line(-1, 0, 0, 0), BAD);
        due(9, "end 2", x.line(2, 0, 0, 0), BAD);
        due(9, "minute -1", x.line(0, -1, 0, 0), BAD);
        due(9, "minute 1000", x.line(0, 1000, 0, 0), BAD);
        due(9, "plate -1", x.line(0, 0, -1, 0), BAD);
        due(9, "plate 83521", x.line(0, 0, 83521, 0), BAD);
        due(9, "colour -1", x.line(0, 0, 0, -1), BAD);
        due(9, "colour 7", x.line(0, 0, 0, 7), BAD);
        due(9, "none came", x.count(0), 1);
        for (int k = 1; k < 10; k++) due(9, "line " + k, x.line(0, k, k, k % 7), k);
        due(9, "full", x.line(0, 0, 0, 0), FULL);
        due(9, "BAD ahead of FULL", x.line(0, 0, 0, 7), BAD);
        due(9, "the other end has room", x.line(1, 5, 5, 5), 1);
    }

    private static void drop() {
        HalfNumber x = new HalfNumber();
        for (int k = 0; k < 4; k++) x.line(1, 10 + k, 1000 * k + 17, k);
        x.tell(0, 3);
        due(10, "drop 1", x.drop(1, 1), 3);
        due(10, "moved minute", x.of(1, 1, 0), 12);
        due(10, "moved plate", x.of(1, 1, 1), 2017);
        due(10, "moved colour", x.of(1, 2, 2), 3);
        due(10, "drop 3", x.drop(1, 3), BAD);
        due(10, "drop -1", x.drop(1, -1), BAD);
        due(10, "no such end", x.drop(2, 0), BAD);
        due(10, "other end", x.drop(0, 0), BAD);
        due(10, "drop 2", x.drop(1, 2), 2);
        due(10, "first stays", x.of(1, 0, 0), 10);
        due(10, "drop 0", x.drop(1, 0), 1);
        due(10, "drop last", x.drop(1, 0), 0);
        due(10, "none left", x.drop(1, 0), BAD);
        due(10, "told stays", x.tell(0, NONE), 3);
        due(10, "a new one", x.line(1, 1, 1, 1), 0);
        due(10, "its plate", x.of(1, 0, 1), 1);
    }

    private static void of() {
        HalfNumber x = new HalfNumber();
        x.line(1, 321, Due.plate("a.Hc"), 4);
        due(11, "minute", x.of(1, 0, 0), 321);
        due(11, "plate", x.of(1, 0, 1), 4913 + 16 * 17 + 3);
        due(11, "colour", x.of(1, 0, 2), 4);
        int[] signs = {1, 0, 16, 3};
        for (int p = 0; p < 4; p++) due(11, "sign " + p, x.of(1, 0, 10 + p), signs[p]);
        for (int what : new int[] {-1, 3, 9, 14, Integer.MAX_VALUE, Integer.MIN_VALUE}) due(11, "what " + what, x.of(1, 0, what), BAD);
        due(11, "no line", x.of(1, 1, 0), BAD);
        due(11, "line -1", x.of(1, -1, 0), BAD);
        due(11, "no end", x.of(2, 0, 0), BAD);
        due(11, "other end", x.of(0, 0, 0), BAD);
    }

    private static void sign() {
        HalfNumber x = new HalfNumber();
        x.line(0, 1, Due.plate("abcd"), 0);
        due(12, "sign", x.sign(0, 0, 0, 16), 1);
        due(12, "sign 0", x.sign(0, 0, 3, 0), 4);
        due(12, "plate", x.of(0, 0, 1), Due.plate("Hbc."));
        due(12, "-1", x.sign(0, 0, 0, -1), BAD);
        due(12, "17", x.sign(0, 0, 0, 17), BAD);
        due(12, "place -1", x.sign(0, 0, -1, 0), BAD);
        due(12, "place 4", x.sign(0, 0, 4, 0), BAD);
        due(12, "line 1", x.sign(0, 1, 0, 0), BAD);
        due(12, "end 1", x.sign(1, 0, 0, 0), BAD);
        due(12, "end 2", x.sign(2, 0, 0, 0), BAD);
        due(12, "nothing changed", x.of(0, 0, 1), Due.plate("Hbc."));
    }

    private static void took() {
        HalfNumber x = lines(new String[] {"aaaa", "aaaa"}, new int[] {999, 5}, new String[] {"bbbb"}, new int[] {0});
        due(13, "less", x.took(0, 0), -999);
        x.setClock(99);
        due(13, "late", x.took(0, 0), -1098);
        x.setClock(-99);
        due(13, "early", x.took(1, 0), 94);
        due(13, "no line of IN", x.took(2, 0), -10000);
        due(13, "no line of OUT", x.took(0, 1), -10000);
        due(13, "-1", x.took(-1, 0), -10000);
        due(13, "j -1", x.took(0, -1), -10000);
    }

    private static int costOf(String road, String in, int inColour, String out, int outColour, int minutes) {
        HalfNumber x = new HalfNumber();
        if (Due.road(x, road) < 0) throw new IllegalArgumentException(road);
        x.line(0, 0, Due.plate(in), inColour);
        x.line(1, minutes, Due.plate(out), outColour);
        return x.cost(0, 0);
    }

    private static void cost() {
        due(14, "all the same", costOf("", "abcd", 0, "abcd", 0, 30), 0);
        due(14, "more minutes", costOf("minutes 10 60 30 3;", "abcd", 0, "abcd", 0, 35), 15);
        due(14, "fewer minutes", costOf("minutes 10 60 30 3;", "abcd", 0, "abcd", 0, 28), 6);
        due(14, "LEAST", costOf("", "abcd", 0, "abcd", 0, 10), 20);
        due(14, "too little", costOf("", "abcd", 0, "abcd", 0, 9), NONE);
        due(14, "MOST", costOf("", "abcd", 0, "abcd", 0, 60), 30);
        due(14, "too much", costOf("", "abcd", 0, "abcd", 0, 61), NONE);
        due(14, "late", costOf("late 9;", "abcd", 0, "abcd", 0, 39), 0);
        due(14, "one not read", costOf("", "abc.", 0, "abcd", 0, 30), 2);
        due(14, "both not read", costOf("", "abc.", 0, "abc.", 0, 30), 2);
        due(14, "not read with doubt", costOf("", "abc.", 0, "abcD", 0, 30), 2);
        due(14, "nothing read", costOf("unread 7;", "....", 0, "ABCD", 0, 30), 28);
        due(14, "doubt on one", costOf("", "Abcd", 0, "abcd", 0, 30), 1);
        due(14, "doubt on the other", costOf("", "abcd", 0, "aBcd", 0, 30), 1);
        due(14, "doubt on both", costOf("", "abCd", 0, "abCd", 0, 30), 1);
        due(14, "unlike", costOf("", "abcd", 0, "abce", 0, 30), NONE);
        due(14, "unlike with doubt", costOf("", "abcd", 0, "abcE", 0, 30), 4);
        due(14, "unlike with doubt at IN", costOf("doubt 9;", "abcD", 0, "abce", 0, 30), 9);
        due(14, "mixed", costOf("mixed d e 3;", "abcd", 0, "abce", 0, 30), 3);
        due(14, "mixed the other way", costOf("mixed e d 3;", "abcd", 0, "abce", 0, 30), NONE);
        due(14, "mixed is less", costOf("mixed d e 3;", "abcD", 0, "abcE", 0, 30), 3);
        due(14, "doubt is less", costOf("mixed d e 5;", "abcd", 0, "abcE", 0, 30), 4);
        due(14, "mixed 0", costOf("mixed d e 0;", "abcd", 0, "abce", 0, 30), 0);
        due(14, "colours unlike", costOf("", "abcd", 1, "abcd", 2, 30), 5);
        due(14, "colours alike", costOf("", "abcd", 2, "abcd", 2, 30), 0);
        due(14, "one colour", costOf("", "abcd", 0, "abcd", 2, 30), 0);
        due(14, "the other colour", costOf("", "abcd", 6, "abcd", 0, 30), 0);
        due(14, "the most", costOf("minutes 0 500 0 9; doubt 50; colour 50;", "aaaa", 1, "BBBB", 2, 500), 4750);
        HalfNumber x = new HalfNumber();
        x.line(0, 0, 0, 0);
        due(14, "no line", x.cost(0, 0), BAD);
        due(14, "-1", x.cost(-1, 0), BAD);
        due(14, "max", x.cost(Integer.MAX_VALUE, Integer.MAX_VALUE), BAD);
    }

    private static void why() {
        HalfNumber x = lines(new String[] {"abcd", "ab.d", "ABCd"}, new int[] {0, 0, 0}, new String[] {"abcd", "bacd", "hhhh"}, new int[] {30, 9, 61});
        due(15, "may be", x.why(0, 0), 0);
        due(15, "places and too little", x.why(0, 1), 16 + 3);
        due(15, "all and too much", x.why(0, 2), 31);
        due(15, "not read", x.why(1, 2), 16 + 11);
        due(15, "doubt", x.why(2, 2), 16 + 8);
        due(15, "no line of IN", x.why(3, 0), BAD);
        due(15, "no line of OUT", x.why(0, 3), BAD);
        due(15, "-1", x.why(0, -1), BAD);
    }

    private static void best() {
        HalfNumber x = alike(3, 2);
        due(16, "least", x.best(0), 12);
        due(16, "best", x.best(1), 6);
        due(16, "all", x.best(2), 13);
        due(16, "none", x.best(3), 60);
        due(16, "-1", x.best(-1), BAD);
        due(16, "4", x.best(4), BAD);
        Due.road(x, "off 0; joined 0;");
        due(16, "all cost nothing", x.best(1), 13);
        Due.road(x, "off 0; joined 0; minutes 0 99 31 1;");
        due(16, "a pair costs more than none", x.best(1), 1);
        due(16, "then none", x.best(0), 0);
    }

    private static void first() {
        HalfNumber x = alike(3, 2);
        due(17, "0", x.first(0), 0);
        due(17, "1", x.first(1), 1);
        due(17, "2", x.first(2), NONE);
        due(17, "3", x.first(3), BAD);
        due(17, "-1", x.first(-1), BAD);
        Due.road(x, "off 0; joined 0;");
        due(17, "a pair ahead of none", x.first(0), 0);
        HalfNumber y = lines(new String[] {"aaaa", "aaaa"}, new int[] {0, 5}, new String[] {"aaaa", "aaaa"}, new int[] {35, 30});
        due(17, "the best, not the least number", y.first(0), 1);
        due(17, "and the other", y.first(1), 0);
    }

    private static void sure() {
        HalfNumber x = alike(2, 2);
        x.line(0, 0, Due.plate("bbbb"), 0);
        x.line(1, 30, Due.plate("bbbb"), 0);
        due(18, "some", x.sure(0, 0), 1);
        due(18, "some other", x.sure(1, 0), 1);
        due(18, "all", x.sure(2, 2), 2);
        due(18, "may not be", x.sure(2, 0), 0);
        due(18, "no line", x.sure(3, 0), BAD);
        due(18, "no line of OUT", x.sure(0, 3), BAD);
        x.line(1, 40, Due.plate("aaaa"), 0);
        due(18, "none", x.sure(0, 3), 0);
    }

    private static void share() {
        HalfNumber x = alike(3, 2);
        x.line(1, 30, Due.plate("hhhh"), 0);
        due(19, "above", x.share(0, 0, 0), 3);
        due(19, "below", x.share(0, 0, 1), 13);
        due(19, "0", x.share(0, 2, 0), 0);
        due(19, "by 1", x.share(0, 2, 1), 1);
        due(19, "what 2", x.share(0, 0, 2), BAD);
        due(19, "what -1", x.share(0, 0, -1), BAD);
        due(19, "no line", x.share(3, 0, 0), BAD);
        due(19, "no line of OUT", x.share(0, 3, 0), BAD);
        HalfNumber y = alike(1, 1);
        due(19, "half", y.share(0, 0, 0), 1);
        due(19, "by two", y.share(0, 0, 1), 2);
        y.line(0, 0, Due.plate("bbbb"), 0);
        y.line(1, 30, Due.plate("bbbb"), 0);
        due(19, "lowest terms", y.share(0, 0, 0), 1);
        due(19, "of two by four", y.share(0, 0, 1), 2);
    }

    private static void ifMust() {
        HalfNumber x = lines(new String[] {"aaaa", "aaaa"}, new int[] {0, 5}, new String[] {"aaaa", "aaaa"}, new int[] {30, 36});
        due(20, "is in the best", x.ifMust(0, 0, true), 0);
        due(20, "must not", x.ifMust(0, 0, false), 10);
        due(20, "must", x.ifMust(0, 1, true), 10);
        due(20, "is not anyway", x.ifMust(0, 1, false), 0);
        x.line(1, 30, Due.plate("hhhh"), 0);
        due(20, "may not be", x.ifMust(0, 2, true), NONE);
        due(20, "may not be, must not", x.ifMust(0, 2, false), 0);
        due(20, "no line", x.ifMust(2, 0, true), BAD);
        due(20, "no line of OUT", x.ifMust(0, 3, false), BAD);
    }

    private static void alone() {
        HalfNumber x = lines(new String[] {"aaaa", "aaaa", "hhhh", "cccc"}, new int[] {0, 0, 0, 0}, new String[] {"aaaa", "cccc", "gggg"}, new int[] {30, 60, 0});
        due(21, "in all best", x.alone(0, 0), 4 + 8);
        due(21, "in some best", x.alone(0, 1), 1 + 2 + 4 + 8);
        due(21, "in all", x.alone(0, 2), 4);
        due(21, "OUT in all best", x.alone(1, 0), 2 + 4);
        due(21, "OUT in some best", x.alone(1, 1), 2 + 4);
        due(21, "OUT in all", x.alone(1, 2), 4);
        due(21, "what 3", x.alone(0, 3), BAD);
        due(21, "what -1", x.alone(0, -1), BAD);
        due(21, "end 2", x.alone(2, 0), BAD);
        due(21, "end -1", x.alone(-1, 0), BAD);
    }

    private static void many() {
        HalfNumber x = alike(3, 2);
        due(22, "fewest", x.many(0), 2);
        due(22, "most", x.many(1), 2);
        Due.road(x, "off 0; joined 0;");
        due(22, "fewest of ties", x.many(0), 0);
        due(22, "most of ties", x.many(1), 2);
        due(22, "2", x.many(2), BAD);
        due(22, "-1", x.many(-1), BAD);
    }

    private static void ways() {
        HalfNumber x = alike(3, 2);
        long[] ways = {1, 6, 6, 0, 0, 0, 0, 0, 0, 0, 0};
        for (int n = 0; n <= 10; n++) due(23, "ways " + n, x.ways(n), ways[n]);
        due(23, "-1", x.ways(-1), BAD);
        due(23, "11", x.ways(11), BAD);
        HalfNumber y = alike(10, 10);
        due(23, "ten of ten", y.ways(10), 3628800);
        due(23, "seven of ten", y.ways(7), 72576000);
    }

    private static void tell() {
        HalfNumber x = new HalfNumber();
        due(24, "there or not", x.tell(9, 9), NONE);
        due(24, "what it had", x.tell(9, 0), 9);
        due(24, "none", x.tell(9, NONE), 0);
        due(24, "had none", x.tell(9, 1), NONE);
        for (int bad : new int[] {-1, -2, -3, -5, 10, Integer.MIN_VALUE, Integer.MAX_VALUE}) {
            due(24, "j " + bad, x.tell(9, bad), BAD);
            due(24, "i " + bad, x.tell(bad, 0), BAD);
        }
        due(24, "i NONE", x.tell(NONE, 0), BAD);
        due(24, "nothing changed", x.tell(9, NONE), 1);
    }

    private static void adopt() {
        HalfNumber x = alike(3, 2);
        x.tell(2, 1);
        x.tell(9, 7);
        due(25, "pairs", x.adopt(), 2);
        int[] told = {0, 1, NONE, NONE, NONE, NONE, NONE, NONE, NONE, NONE};
        for (int i = 0; i < 10; i++) due(25, "told " + i, x.tell(i, NONE), told[i]);
        due(25, "no lines", new HalfNumber().adopt(), 0);
    }

    private static void judge() {
        HalfNumber x = lines(new String[] {"aaaa", "aaaa", "bbbb"}, new int[] {0, 0, 0}, new String[] {"aaaa", "aaaa"}, new int[] {30, 32});
        due(26, "none wrong", x.judge(0), NONE);
        due(26, "why none", x.judge(1), 0);
        due(26, "total of none", x.judge(2), 60);
        due(26, "more than best", x.judge(3), 60 - 14);
        x.tell(0, 1);
        due(26, "one pair", x.judge(2), 2 + 36);
        x.tell(1, 1);
        due(26, "an earlier one has it", x.judge(0), 1);
        due(26, "why", x.judge(1), 2);
        due(26, "no total", x.judge(2), NONE);
        due(26, "no more", x.judge(3), NONE);
        x.tell(1, 2);
        due(26, "no such line", x.judge(1), 1);
        x.tell(0, 9);
        due(26, "the first of two", x.judge(0), 0);
        x.tell(0, NONE);
        x.tell(1, NONE);
        x.tell(2, 0);
        due(26, "may not be", x.judge(0), 2);
        due(26, "may not be, why", x.judge(1), 3);
        x.tell(2, NONE);
        x.tell(3, 0);
        due(26, "no line of IN: nothing is wrong", x.judge(0), NONE);
        due(26, "nor counted", x.judge(2), 60);
        due(26, "4", x.judge(4), BAD);
        due(26, "-1", x.judge(-1), BAD);
        x.adopt();
        due(26, "the first", x.judge(3), 0);
    }

    private static void prices() {
        HalfNumber x = lines(new String[] {"aaaa", "bbbb"}, new int[] {0, 0}, new String[] {"aaaa", "bbbb"}, new int[] {33, 34});
        x.sheet(2, 1, 6);
        int[] good = {0, -999, 3, -1, 5, 999};
        for (int c = 0; c < 6; c++) x.lay(2, c, good[c]);
        due(27, "hold", x.prices(2, 1, 0, 0), 1);
        due(27, "first line of a pair", x.prices(2, 1, 2, 1), 0);
        due(27, "second line of a pair", x.prices(2, 1, 1, 1), 1);
        due(27, "hold not", x.prices(2, 1, 2, 0), 0);
        due(27, "own too great", x.prices(2, 1, 2, 2), 3);
        x.lay(2, 1, 4);
        x.lay(2, 3, 0);
        due(27, "they hold", x.prices(2, 1, 0, 0), 1);
        due(27, "no pair", x.prices(2, 1, 0, 1), NONE);
        due(27, "no line", x.prices(2, 1, 0, 2), NONE);
        due(27, "they prove", x.prices(2, 1, 0, 3), 7);
        due(27, "no less than best", x.prices(2, 1, 0, 4), 0);
        x.lay(2, 0, -1);
        due(27, "less than best", x.prices(2, 1, 0, 4), 1);
        x.lay(2, 0, 13);
        due(27, "own of IN", x.prices(2, 1, 0, 2), 0);
        due(27, "prove nothing", x.prices(2, 1, 0, 3), NONE);
        due(27, "prove nothing 4", x.prices(2, 1, 0, 4), NONE);
        x.lay(2, 3, 1000);
        due(27, "out of bounds", x.prices(2, 1, 0, 0), -1000023);
        x.lay(2, 3, -1000);
        due(27, "below bounds", x.prices(2, 1, 1, 4), -1000022);
        due(27, "bounds ahead of index", x.prices(2, 1, 3, 4), -1000020);
        due(27, "index ahead", x.prices(2, 1, 4, 4), -1000012);
        due(27, "index max", x.prices(2, 1, Integer.MAX_VALUE, 4), -1000012);
        due(27, "index min", x.prices(2, 1, Integer.MIN_VALUE, 4), -1000012);
        due(27, "cast", x.prices(2, 2, Integer.MAX_VALUE, 4), -1000013);
        due(27, "null", x.prices(3, 2, 0, 4), -1000011);
        due(27, "k", x.prices(4, 1, 0, 0), -1000000);
        due(27, "k -1", x.prices(-1, 1, 0, 0), -1000000);
        due(27, "lane", x.prices(2, 3, 0, 0), -1000000);
        due(27, "lane -1", x.prices(2, -1, 0, 0), -1000000);
        due(27, "what", x.prices(2, 1, 0, 5), -1000000);
        due(27, "what -1", x.prices(3, 1, 0, -1), -1000000);
        HalfNumber y = new HalfNumber();
        due(27, "null without lines", y.prices(0, 0, 0, 0), -1000011);
        y.sheet(0, 0, 0);
        due(27, "cast without lines", y.prices(0, 1, 0, 0), -1000013);
        due(27, "hold without lines", y.prices(0, 0, -7, 0), 1);
        due(27, "prove 0", y.prices(0, 0, 99, 3), 0);
    }

    private static void times() {
        HalfNumber x = lines(new String[] {"aaaa", "bbbb", "bbbb"}, new int[] {0, 0, 0}, new String[] {"aaaa", "bbbb", "hhhh"}, new int[] {30, 33, 9});
        due(28, "how many", x.times(0), 2);
        due(28, "least", x.times(1), 30);
        due(28, "most", x.times(2), 33);
        due(28, "mean", x.times(3), 63);
        due(28, "mean by", x.times(4), 2);
        due(28, "sure mean", x.times(5), 30);
        due(28, "sure mean by", x.times(6), 1);
        due(28, "7", x.times(7), -10000);
        due(28, "-1", x.times(-1), -10000);
        HalfNumber y = alike(2, 1);
        due(28, "one", y.times(0), 1);
        due(28, "none is sure", y.times(5), -10004);
        due(28, "none is sure 6", y.times(6), -10004);
        HalfNumber z = new HalfNumber();
        due(28, "none", z.times(0), 0);
        for (int k = 1; k <= 6; k++) due(28, "none " + k, z.times(k), -10004);
        HalfNumber w = lines(new String[] {"aaaa"}, new int[] {7}, new String[] {"aaaa"}, new int[] {7});
        Due.road(w, "minutes 0 5 0 1;");
        due(28, "0", w.times(3), 0);
        due(28, "by 1", w.times(4), 1);
    }

    private static void clock() {
        HalfNumber x = lines(new String[] {"aaaa", "bbbb"}, new int[] {0, 0}, new String[] {"aaaa", "bbbb"}, new int[] {35, 37});
        due(29, "of several the nearest", x.clock(0), 5);
        due(29, "its total", x.clock(1), 2);
        x.setClock(50);
        due(29, "from above", x.clock(0), 7);
        x.setClock(6);
        due(29, "the clock itself", x.clock(0), 6);
        due(29, "the clock stays", x.rule(9), 6);
        HalfNumber y = new HalfNumber();
        y.setClock(99);
        due(29, "no lines: the nearest", y.clock(0), 30);
        y.setClock(-99);
        due(29, "no lines: the nearest below", y.clock(0), -30);
        HalfNumber z = lines(new String[] {"aaaa", "bbbb"}, new int[] {0, 0}, new String[] {"aaaa", "bbbb"}, new int[] {20, 40});
        Due.road(z, "minutes 30 30 30 1;");
        due(29, "as near: the lesser", z.clock(0), -10);
        due(29, "one of both", z.clock(1), 24);
        due(29, "2", z.clock(2), -1000);
        due(29, "-1", z.clock(-1), -1000);
    }

    private static void passed() {
        String[] plates = {"aaaa", "bbbb", "cccc", "dddd"};
        HalfNumber x = lines(plates, new int[] {3, 2, 1, 0}, plates, new int[] {30, 31, 32, 33});
        due(30, "all", x.passed(0), 6);
        due(30, "fewest", x.passed(1), 3);
        due(30, "most others", x.passed(2), 0);
        HalfNumber y = lines(plates, new int[] {0, 1, 1, 2}, plates, new int[] {32, 31, 30, 31});
        due(30, "like minutes are no passing", y.passed(0), 3);
        due(30, "without the first", y.passed(1), 1);
        due(30, "of several the least", y.passed(2), 1);
        HalfNumber z = lines(plates, new int[] {0, 1, 2, 3}, plates, new int[] {30, 31, 32, 33});
        due(30, "nobody", z.passed(0), 0);
        due(30, "nobody, fewest", z.passed(1), 0);
        due(30, "nobody, who", z.passed(2), NONE);
        due(30, "3", z.passed(3), BAD);
        due(30, "-1", z.passed(-1), BAD);
    }

    private static HalfNumber mistaken() {
        HalfNumber x = lines(new String[] {"abcd", "Aaef", "g.hh"}, new int[] {0, 0, 0}, new String[] {"bbcD", "bBef", "ga.h"}, new int[] {30, 30, 30});
        Due.road(x, "mixed a b 1; mixed h b 3;");
        return x;
    }

    private static void reads() {
        HalfNumber x = mistaken();
        due(31, "a as b", x.reads(0, 1), 3);
        due(31, "b as b", x.reads(1, 1), 1);
        due(31, "b as a", x.reads(1, 0), 0);
        due(31, "d with doubt", x.reads(3, 3), 1);
        due(31, "h", x.reads(7, 7), 1);
        due(31, "8", x.reads(8, 0), BAD);
        due(31, "y 8", x.reads(0, 8), BAD);
        due(31, "-1", x.reads(-1, 0), BAD);
        due(31, "y -1", x.reads(0, -1), BAD);
        due(31, "no lines", new HalfNumber().reads(0, 0), 0);
    }

    private static void blame() {
        HalfNumber x = mistaken();
        due(32, "IN", x.blame(0), 0);
        due(32, "OUT", x.blame(1), 1);
        due(32, "how often", x.blame(2), 3);
        due(32, "3", x.blame(3), BAD);
        due(32, "-1", x.blame(-1), BAD);
        HalfNumber y = alike(2, 2);
        for (int k = 0; k < 3; k++) due(32, "like letters are no mistake", y.blame(k), NONE);
        HalfNumber z = lines(new String[] {"bBaa"}, new int[] {0}, new String[] {"Cabb"}, new int[] {30});
        Due.road(z, "mixed a b 1; mixed b c 1; mixed b a 1;");
        due(32, "most often", z.blame(0), 0);
        due(32, "most often OUT", z.blame(1), 1);
        z.sign(0, 0, 3, 2);
        due(32, "of several the least IN", z.blame(0), 0);
        z.sign(0, 0, 2, 2);
        due(32, "of several the least OUT, IN", z.blame(0), 1);
        due(32, "of several the least OUT", z.blame(1), 0);
        due(32, "once", z.blame(2), 1);
    }

    private static void learn() {
        HalfNumber x = mistaken();
        due(33, "what it was", x.learn(50), 1);
        due(33, "from now on", x.mixed(0, 1), 50);
        HalfNumber y = lines(new String[] {"Aaaa"}, new int[] {0}, new String[] {"haaa"}, new int[] {30});
        due(33, "not told", y.learn(0), NONE);
        due(33, "told now", y.mixed(0, 7), 0);
        due(33, "cost", y.cost(0, 0), 0);
        due(33, "51", y.learn(51), BAD);
        due(33, "-1", y.learn(-1), BAD);
        due(33, "nothing changed", y.mixed(0, 7), 0);
        due(33, "none", alike(1, 1).learn(0), STATE);
        due(33, "BAD ahead of STATE", alike(1, 1).learn(51), BAD);
    }

    private static void enough() {
        HalfNumber x = lines(new String[] {"abca", "abcb"}, new int[] {0, 0}, new String[] {"abcb", "abca"}, new int[] {30, 30});
        due(34, "fewest", x.enough(0), 1);
        due(34, "place 3", x.enough(1), 8);
        HalfNumber y = lines(new String[] {"aabb", "bbaa"}, new int[] {0, 0}, new String[] {"aabb", "bbaa"}, new int[] {30, 30});
        due(34, "of several sets the least", y.enough(1), 1);
        HalfNumber z = lines(new String[] {"aaaa", "abaa", "aaba", "abba"}, new int[] {0, 0, 0, 0}, new String[] {"aaaa", "abaa", "aaba", "abba"}, new int[] {30, 30, 30, 30});
        due(34, "two", z.enough(0), 2);
        due(34, "which two", z.enough(1), 6);
        due(34, "not even all", alike(2, 2).enough(0), NONE);
        due(34, "not even all 1", alike(2, 2).enough(1), NONE);
        due(34, "none needed", alike(1, 1).enough(0), 0);
        due(34, "no lines", new HalfNumber().enough(1), 0);
        due(34, "2", x.enough(2), BAD);
        due(34, "-1", x.enough(-1), BAD);
        HalfNumber w = lines(new String[] {"abcd"}, new int[] {0}, new String[] {"hbcd"}, new int[] {30});
        due(34, "the place that keeps them apart", w.enough(1), 1);
    }

    private static void round() {
        HalfNumber x = new HalfNumber();
        String[] plates = {"abcd", "abcd", "abcE", "abc.", "abce"};
        int[] colours = {1, 0, 2, 1, 1};
        for (int k = 0; k < 5; k++) x.line(1, 500 * (k % 2), Due.plate(plates[k]), colours[k]);
        due(35, "alike", x.round(1, 0, 1), 1);
        due(35, "doubt", x.round(1, 1, 2), 1);
        due(35, "doubt, the other way", x.round(1, 2, 1), 1);
        due(35, "colours unlike", x.round(1, 0, 2), 0);
        due(35, "not read", x.round(1, 0, 3), 1);
        due(35, "unlike", x.round(1, 0, 4), 0);
        due(35, "not read, unlike", x.round(1, 4, 3), 1);
        due(35, "one and the same", x.round(1, 2, 2), BAD);
        due(35, "no line", x.round(1, 0, 5), BAD);
        due(35, "a -1", x.round(1, -1, 0), BAD);
        due(35, "other end", x.round(0, 0, 1), BAD);
        due(35, "end 2", x.round(2, 0, 1), BAD);
    }

    private static void cars() {
        HalfNumber x = new HalfNumber();
        due(36, "no lines", x.cars(0, 0), 0);
        due(36, "no lines, fewest", x.cars(0, 1), 0);
        String[] plates = {"aaaa", "a...", "..bb", "bb..", "bbbb"};
        for (String p : plates) x.line(0, 0, Due.plate(p), 0);
        due(36, "all", x.cars(0, 0), 5);
        due(36, "fewest", x.cars(0, 1), 2);
        x.line(0, 0, Due.plate("cccc"), 0);
        due(36, "one more", x.cars(0, 1), 3);
        due(36, "other end", x.cars(1, 1), 0);
        due(36, "what 2", x.cars(0, 2), BAD);
        due(36, "what -1", x.cars(0, -1), BAD);
        due(36, "end 2", x.cars(2, 0), BAD);
        // a ring of five: each goes with its two neighbours alone, so no set has three of them
        HalfNumber y = new HalfNumber();
        String[] ring = {"..cc", "abc.", "...b", "..b.", "b..c"};
        for (String p : ring) y.line(0, 0, Due.plate(p), 0);
        for (int a = 0; a < 5; a++) {
            for (int b = 0; b < a; b++) due(36, "ring " + a + " " + b, y.round(0, a, b), (a - b) % 3 == 1 ? 1 : 0);
        }
        due(36, "a ring", y.cars(0, 1), 3);
    }

    private static void keepAndBack() {
        HalfNumber x = alike(3, 2);
        Due.road(x, "mixed a b 3; late 4;");
        x.tell(0, 1);
        due(37, "none was", x.keep(1), 0);
        due(37, "one was", x.keep(1), 1);
        due(37, "k 2", x.keep(2), BAD);
        due(37, "k -1", x.keep(-1), BAD);
        due(38, "none", x.back(0), STATE);
        due(38, "k 2", x.back(2), BAD);
        due(38, "k -1", x.back(-1), BAD);
        due(37, "images", x.count(3), 1);
        x.drop(0, 0);
        x.sign(0, 0, 0, 5);
        x.setClock(9);
        x.learn(9);
        x.tell(0, 7);
        x.sheet(0, 0, 5);
        x.feed(0);
        due(38, "how many lines", x.back(1), 5);
        due(38, "lines", x.count(0), 3);
        due(38, "signs", x.of(0, 0, 1), Due.plate("aaaa"));
        due(38, "clock", x.rule(9), 4);
        due(38, "mixed", x.mixed(0, 1), 3);
        due(38, "told", x.tell(0, 2), 1);
        due(38, "sheets stay", x.count(5), 5);
        due(38, "the tape stays", x.count(4), 8);
        x.sign(0, 0, 0, 5);
        x.drop(1, 0);
        due(38, "again", x.back(1), 5);
        due(38, "an image does not change with what is now", x.of(0, 0, 10), 1);
        due(38, "nor the told", x.tell(0, 2), 1);
        x.keep(0);
        due(37, "two images", x.count(3), 2);
    }

    private static void sheet() {
        HalfNumber x = new HalfNumber();
        due(39, "0 cells", x.sheet(0, 0, 0), 1);
        due(39, "0 cells are there", x.count(5), 0);
        due(39, "64 cells", x.sheet(0, 2, 64), 1);
        x.lay(0, 63, 9);
        due(39, "65", x.sheet(0, 0, 65), BAD);
        due(39, "-1", x.sheet(0, 0, -1), -14);
        due(39, "min", x.sheet(0, 0, Integer.MIN_VALUE), -14);
        due(39, "BAD ahead of SIZE", x.sheet(4, 0, -1), BAD);
        due(39, "lane ahead of SIZE", x.sheet(0, 3, -1), BAD);
        due(39, "k -1", x.sheet(-1, 0, 1), BAD);
        due(39, "lane -1", x.sheet(0, -1, 1), BAD);
        due(39, "still there", x.count(5), 64);
        x.sheet(0, 2, 64);
        x.line(0, 0, 0, 0);
        due(39, "cells are 0", x.prices(0, 2, 63, 3), 0);
        due(39, "lane is new", x.sheet(0, 1, 1), 1);
        due(39, "as the lane before", x.prices(0, 2, 0, 0), -1000013);
    }

    private static void lay() {
        HalfNumber x = new HalfNumber();
        x.line(0, 0, 0, 0);
        for (int lane = 0; lane < 3; lane++) {
            x.sheet(lane, lane, 2);
            due(40, "lay", x.lay(lane, 1, 0x10000 * 7 + 0x101), 1);
        }
        due(40, "a byte's lowest bits", x.prices(0, 0, 1, 3), 1);
        due(40, "a short's are too many", x.prices(1, 1, 1, 2), 0);
        due(40, "an int has all", x.prices(2, 2, 1, 0), -1000020);
        x.lay(0, 0, 0xf8);
        due(40, "a byte has a sign", x.prices(0, 0, 0, 3), -8);
        x.lay(1, 0, 0xfffe);
        due(40, "a short has a sign", x.prices(1, 1, 0, 3), -2);
        due(40, "null", x.lay(3, 0, 0), -11);
        due(40, "null ahead of index", x.lay(3, -1, 0), -11);
        due(40, "index", x.lay(0, 2, 0), -12);
        due(40, "index -1", x.lay(0, -1, 0), -12);
        due(40, "index max", x.lay(0, Integer.MAX_VALUE, 0), -12);
        due(40, "k", x.lay(4, 0, 0), BAD);
        due(40, "k -1", x.lay(-1, 0, 0), BAD);
    }

    private static void layAll(HalfNumber x, int k, int... cells) {
        for (int c = 0; c < cells.length; c++) x.lay(k, c, cells[c]);
    }

    private static void read() {
        HalfNumber x = new HalfNumber();
        x.sheet(0, 2, 64);
        layAll(x, 0, 7, 999, 16, 0, 1, 9, 6, 0, 1, 2, 3, 4, 0, 1000);
        due(41, "two", x.read(0, 2, 1, 2, 1), 2);
        due(41, "minute", x.of(1, 0, 0), 999);
        due(41, "plate", x.of(1, 0, 1), 16 * 4913 + 17 + 9);
        due(41, "colour", x.of(1, 0, 2), 6);
        due(41, "second plate", x.of(1, 1, 1), Due.plate("abcd"));
        due(41, "third is BAD", x.read(0, 2, 1, 3, 1), -22);
        due(41, "then none came", x.count(1), 2);
        due(41, "n 0", x.read(0, 2, 0, 0, 1), 0);
        due(41, "n 0 of nothing", x.read(3, 0, -9, 0, 1), 0);
        due(41, "n 10", x.read(0, 2, 59, 10, 1), 0);
        due(41, "n 11", x.read(0, 2, 0, 11, 1), BAD);
        due(41, "n -1", x.read(0, 2, 0, -1, 1), BAD);
        due(41, "k", x.read(4, 2, 0, 0, 1), BAD);
        due(41, "k -1", x.read(-1, 2, 0, 1, 1), BAD);
        due(41, "lane", x.read(0, 3, 0, 0, 1), BAD);
        due(41, "lane -1", x.read(0, -1, 0, 1, 1), BAD);
        due(41, "end", x.read(0, 2, 0, 0, 2), BAD);
        due(41, "end -1", x.read(0, 2, 0, 0, -1), BAD);
        readRefusals();
        HalfNumber y = new HalfNumber();
        y.sheet(1, 0, 64);
        due(41, "ten", y.read(1, 0, 4, 10, 0), 10);
        due(41, "no room", y.read(1, 0, 0, 1, 0), FULL);
        due(41, "no room, and n 0", y.read(1, 0, 0, 0, 0), 0);
        due(41, "no room, and not whole", y.read(1, 0, 60, 1, 0), 0);
        due(41, "no room, and null", y.read(0, 0, 60, 1, 0), 0);
        y.lay(1, 0, -1);
        due(41, "BAD ahead of no room", y.read(1, 0, 0, 1, 0), -20);
        y.drop(0, 0);
        due(41, "no room for the second: then none came", y.read(1, 0, 6, 2, 0), FULL);
        due(41, "none", y.count(0), 9);
        due(41, "room for one, the second is not whole", y.read(1, 0, 58, 2, 0), 1);
        due(41, "ten again", y.count(0), 10);
    }

    private static void readRefusals() {
        int[][] bad = {{1000, 0, 0, 0, 0, 0}, {-1, 0, 0, 0, 0, 0}, {0, 17, 0, 0, 0, 0}, {0, 0, 17, 0, 0, 0}, {0, 0, 0, 17, 0, 0}, {0, 0, 0, 0, 17, 0},
            {0, 1, 0, 0, -1, 0}, {0, 0, 0, 0, 0, 7}, {0, 0, 0, 0, 0, -1}};
        for (int[] cells : bad) {
            HalfNumber x = new HalfNumber();
            x.sheet(0, 1, 6);
            layAll(x, 0, cells);
            due(41, "a bad line", x.read(0, 1, 0, 1, 0), -20);
            due(41, "first met", x.read(0, 1, 0, 2, 0), -20);
            due(41, "a bad line that is not whole", x.read(0, 1, 1, 1, 0), 0);
            due(41, "none came", x.count(0), 0);
        }
    }

    private static void torn() {
        HalfNumber x = new HalfNumber();
        due(42, "at first", x.torn(), 0);
        x.read(0, 0, 0, 1, 0);
        due(42, "null", x.torn(), 1);
        x.sheet(0, 1, 13);
        due(42, "whole ones come", x.read(0, 1, 0, 3, 0), 2);
        due(42, "index", x.torn(), 2);
        x.read(0, 2, 0, 1, 0);
        due(42, "cast", x.torn(), 3);
        x.read(9, 1, 0, 1, 0);
        due(42, "BAD leaves it", x.torn(), 3);
        x.lay(0, 0, -1);
        x.read(0, 1, 0, 1, 0);
        due(42, "a bad line leaves it", x.torn(), 3);
        x.lay(0, 0, 0);
        x.read(0, 1, 0, 1, 0);
        due(42, "none", x.torn(), 0);
        x.read(0, 1, -1, 1, 0);
        due(42, "index below", x.torn(), 2);
        x.read(3, 1, -1, 0, 0);
        due(42, "of n 0", x.torn(), 0);
        x.read(0, 1, Integer.MAX_VALUE, 1, 0);
        due(42, "index far above", x.torn(), 2);
        while (x.line(0, 0, 0, 0) >= 0) { }
        x.read(0, 1, 0, 1, 0);
        due(42, "FULL leaves it", x.torn(), 2);
    }

    private static void count() {
        HalfNumber x = alike(3, 2);
        x.line(1, 30, Due.plate("hhhh"), 0);
        due(43, "IN", x.count(0), 3);
        due(43, "OUT", x.count(1), 3);
        due(43, "pairs", x.count(2), 6);
        x.keep(1);
        due(43, "images", x.count(3), 1);
        x.feed(0);
        due(43, "bytes", x.count(4), 8);
        due(43, "nothing", x.count(5), NONE);
        x.sheet(1, 0, 4);
        due(43, "another sheet", x.count(5), NONE);
        x.sheet(0, 0, 4);
        due(43, "cells", x.count(5), 4);
        due(43, "6", x.count(6), BAD);
        due(43, "-1", x.count(-1), BAD);
    }
}
