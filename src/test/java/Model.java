import java.util.ArrayList;
import java.util.List;

/**
 * The document again, as plainly as it can be told: every pairing is written down, and each question is asked of
 * that list. Tests hold HalfNumber against it on runs whose pairings are few enough to be written down.
 */
final class Model {
    static final int BAD = -1, STATE = -2, FULL = -3, NONE = -4;

    static final class Line {
        int minute;
        int[] signs = new int[4];
        int colour;

        Line copy() {
            Line c = new Line();
            c.minute = minute;
            c.signs = signs.clone();
            c.colour = colour;
            return c;
        }
    }

    static final class Road {
        int least = 10, most = 60, usual = 30, minute = 1, doubt = 4, unread = 2, colour = 5, off = 12, joined = 12, clock = 0;
        int[][] mixed = new int[8][8];

        Road() {
            for (int[] row : mixed) {
                java.util.Arrays.fill(row, NONE);
            }
        }

        Road copy() {
            Road c = new Road();
            c.least = least; c.most = most; c.usual = usual; c.minute = minute; c.doubt = doubt; c.unread = unread;
            c.colour = colour; c.off = off; c.joined = joined; c.clock = clock;
            for (int x = 0; x < 8; x++) {
                c.mixed[x] = mixed[x].clone();
            }
            return c;
        }
    }

    static final class Image {
        List<Line> in, out;
        Road road;
        int[] told;
    }

    static final class RoadFault extends RuntimeException {
        private static final long serialVersionUID = 1L;
        final int kind, place;

        RoadFault(int kind, int place) {
            this.kind = kind;
            this.place = place;
        }
    }

    Road road = new Road();
    List<Line> in = new ArrayList<>(), out = new ArrayList<>();
    int[] told = new int[10];
    Image[] images = new Image[2];
    Object[] sheets = new Object[4];
    StringBuilder tape = new StringBuilder();
    int lastFault, lastTorn;

    Model() {
        java.util.Arrays.fill(told, NONE);
    }

    // ---- the text

    int feed(long v) {
        if (tape.length() + 8 > 320) return FULL;
        for (int k = 7; k >= 0; k--) tape.append((char) (v >>> (8 * k) & 255));
        return tape.length();
    }

    int end(int n) {
        int had = tape.length();
        if (n < 0 || n > had) return BAD;
        tape.setLength(n);
        return had;
    }

    int road() {
        String text = tape.toString();
        tape.setLength(0);
        try {
            Parser p = new Parser(text);
            int items = p.parse();
            road = p.road;
            lastFault = 0;
            return items;
        } catch (RoadFault f) {
            lastFault = f.kind;
            return -10 - f.place;
        }
    }

    static final class Parser {
        final String text;
        int pos;
        String token;
        int start;
        Road road = new Road();
        java.util.Set<String> seen = new java.util.HashSet<>();

        Parser(String text) {
            this.text = text;
        }

        void next() {
            while (pos < text.length() && text.charAt(pos) == 32) pos++;
            start = pos;
            java.util.regex.Matcher m = java.util.regex.Pattern.compile("[a-z]+|[0-9]+|;").matcher(text);
            if (pos == text.length()) { token = ""; return; }
            m.region(pos, text.length());
            if (!m.lookingAt()) throw new RoadFault(1, start);
            token = m.group();
            if (Character.isDigit(token.charAt(0)) && token.length() > 3) throw new RoadFault(1, start);
            pos = m.end();
        }

        boolean isName() {
            return !token.isEmpty() && token.charAt(0) >= 'a' && token.charAt(0) <= 'z';
        }

        int num(int lo, int hi) {
            next();
            if (token.isEmpty() || !Character.isDigit(token.charAt(0))) throw new RoadFault(2, start);
            int v = Integer.parseInt(token);
            if (v < lo || v > hi) throw new RoadFault(3, start);
            return v;
        }

        int letter() {
            next();
            if (!isName()) throw new RoadFault(2, start);
            if (token.length() != 1 || token.charAt(0) > 'h') throw new RoadFault(3, start);
            return token.charAt(0) - 'a';
        }

        int parse() {
            int items = 0;
            while (true) {
                next();
                if (token.isEmpty()) return items;
                if (!List.of("minutes", "mixed", "doubt", "unread", "colour", "off", "joined", "late", "early").contains(token)) {
                    throw new RoadFault(2, start);
                }
                String name = token;
                String key = name.equals("early") ? "late" : name;
                if (!name.equals("mixed") && !seen.add(key)) throw new RoadFault(4, start);
                item(name);
                next();
                if (!token.equals(";")) throw new RoadFault(2, start);
                items++;
            }
        }

        void item(String name) {
            switch (name) {
                case "minutes":
                    road.least = num(0, 500);
                    road.most = num(road.least, 500);
                    road.usual = num(road.least, road.most);
                    road.minute = num(0, 9);
                    break;
                case "mixed":
                    int x = letter();
                    int y = letter();
                    if (x == y) throw new RoadFault(3, start);
                    if (!seen.add("mixed " + x + " " + y)) throw new RoadFault(4, start);
                    road.mixed[x][y] = num(0, 50);
                    break;
                case "doubt": road.doubt = num(0, 50); break;
                case "unread": road.unread = num(0, 50); break;
                case "colour": road.colour = num(0, 50); break;
                case "off": road.off = num(0, 99); break;
                case "joined": road.joined = num(0, 99); break;
                case "late": road.clock = num(0, 99); break;
                default: road.clock = -num(0, 99); break;
            }
        }
    }

    int fault() {
        return lastFault;
    }

    int rule(int what) {
        int[] all = {road.least, road.most, road.usual, road.minute, road.doubt, road.unread, road.colour, road.off, road.joined, road.clock};
        return what < 0 || what >= all.length ? -1000 : all[what];
    }

    int mixed(int x, int y) {
        if (!letter(x) || !letter(y) || x == y) return BAD;
        return road.mixed[x][y];
    }

    int setClock(int v) {
        if (v < -99 || v > 99) return -1000;
        int was = road.clock;
        road.clock = v;
        return was;
    }

    static boolean letter(int x) {
        return x >= 0 && x <= 7;
    }

    // ---- lines

    List<Line> at(int end) {
        return end == 0 ? in : end == 1 ? out : null;
    }

    boolean has(int end, int i) {
        return at(end) != null && i >= 0 && i < at(end).size();
    }

    int line(int end, int minute, int plate, int colour) {
        if (at(end) == null || minute < 0 || minute > 999 || plate < 0 || plate > 83520 || colour < 0 || colour > 6) return BAD;
        if (at(end).size() == 10) return FULL;
        Line l = new Line();
        l.minute = minute;
        l.signs = new int[] {plate / 4913, plate / 289 % 17, plate / 17 % 17, plate % 17};
        l.colour = colour;
        at(end).add(l);
        return at(end).size() - 1;
    }

    int drop(int end, int i) {
        if (!has(end, i)) return BAD;
        at(end).remove(i);
        return at(end).size();
    }

    int of(int end, int i, int what) {
        if (!has(end, i)) return BAD;
        Line l = at(end).get(i);
        switch (what) {
            case 0: return l.minute;
            case 1: return l.signs[0] * 4913 + l.signs[1] * 289 + l.signs[2] * 17 + l.signs[3];
            case 2: return l.colour;
            case 10: case 11: case 12: case 13: return l.signs[what - 10];
            default: return BAD;
        }
    }

    int sign(int end, int i, int place, int s) {
        if (!has(end, i) || place < 0 || place > 3 || s < 0 || s > 16) return BAD;
        int was = at(end).get(i).signs[place];
        at(end).get(i).signs[place] = s;
        return was;
    }

    // ---- pairs

    boolean pair(int i, int j) {
        return has(0, i) && has(1, j);
    }

    int tookBy(int i, int j, int clock) {
        return out.get(j).minute - in.get(i).minute - clock;
    }

    int took(int i, int j) {
        return pair(i, j) ? tookBy(i, j, road.clock) : -10000;
    }

    /** Points at a place; -1: it may not be. */
    int place(int x, int y) {
        if (x == 0 || y == 0) return road.unread;
        char a = "abcdefghabcdefgh".charAt(x - 1), b = "abcdefghabcdefgh".charAt(y - 1);
        boolean doubt = x >= 9 || y >= 9;
        if (a == b) return doubt ? 1 : 0;
        List<Integer> there = new ArrayList<>();
        if (road.mixed[a - 'a'][b - 'a'] != NONE) there.add(road.mixed[a - 'a'][b - 'a']);
        if (doubt) there.add(road.doubt);
        return there.isEmpty() ? -1 : java.util.Collections.min(there);
    }

    int costBy(int i, int j, int clock, int places) {
        int t = tookBy(i, j, clock);
        if (t < road.least || t > road.most) return NONE;
        int sum = Math.abs(t - road.usual) * road.minute;
        for (int p = 0; p < 4; p++) {
            if ((places & 1 << p) == 0) continue;
            int points = place(in.get(i).signs[p], out.get(j).signs[p]);
            if (points < 0) return NONE;
            sum += points;
        }
        int a = in.get(i).colour, b = out.get(j).colour;
        if (a != 0 && b != 0 && a != b) sum += road.colour;
        return sum;
    }

    int cost(int i, int j) {
        return pair(i, j) ? costBy(i, j, road.clock, 15) : BAD;
    }

    int why(int i, int j) {
        if (!pair(i, j)) return BAD;
        int bits = 0;
        for (int p = 0; p < 4; p++) {
            if (place(in.get(i).signs[p], out.get(j).signs[p]) < 0) bits += 1 << p;
        }
        int t = took(i, j);
        return t < road.least || t > road.most ? 16 + bits : bits;
    }

    /** All pairings, in the order of which the first of the best is the first. */
    List<int[]> pairings(int clock, int places) {
        List<int[]> all = new ArrayList<>();
        int[] now = new int[in.size()];
        write(0, now, new boolean[out.size()], clock, places, all);
        return all;
    }

    private void write(int i, int[] now, boolean[] taken, int clock, int places, List<int[]> all) {
        if (i == now.length) {
            all.add(now.clone());
            return;
        }
        for (int j = 0; j < taken.length; j++) {
            if (taken[j] || costBy(i, j, clock, places) == NONE) continue;
            taken[j] = true;
            now[i] = j;
            write(i + 1, now, taken, clock, places, all);
            taken[j] = false;
        }
        now[i] = NONE;
        write(i + 1, now, taken, clock, places, all);
    }

    int total(int[] pairing, int clock, int places) {
        int sum = 0, pairs = 0;
        for (int i = 0; i < pairing.length; i++) {
            if (pairing[i] != NONE) {
                sum += costBy(i, pairing[i], clock, places);
                pairs++;
            }
        }
        return sum + road.off * (in.size() - pairs) + road.joined * (out.size() - pairs);
    }

    int least(List<int[]> all, int clock, int places) {
        int least = Integer.MAX_VALUE;
        for (int[] p : all) least = Math.min(least, total(p, clock, places));
        return least;
    }

    List<int[]> bestOf(List<int[]> all, int clock, int places) {
        int least = least(all, clock, places);
        List<int[]> best = new ArrayList<>();
        for (int[] p : all) if (total(p, clock, places) == least) best.add(p);
        return best;
    }

    List<int[]> all() {
        return pairings(road.clock, 15);
    }

    List<int[]> bests() {
        return bestOf(all(), road.clock, 15);
    }

    int least() {
        return least(all(), road.clock, 15);
    }

    int[] firstOne() {
        return bests().get(0);
    }

    static int size(int[] pairing) {
        int n = 0;
        for (int j : pairing) if (j != NONE) n++;
        return n;
    }

    long best(int what) {
        switch (what) {
            case 0: return least();
            case 1: return bests().size();
            case 2: return all().size();
            case 3: return road.off * in.size() + road.joined * out.size();
            default: return BAD;
        }
    }

    int first(int i) {
        return has(0, i) ? firstOne()[i] : BAD;
    }

    int sure(int i, int j) {
        if (!pair(i, j)) return BAD;
        int with = 0, all = 0;
        for (int[] p : bests()) {
            all++;
            if (p[i] == j) with++;
        }
        return with == all ? 2 : with > 0 ? 1 : 0;
    }

    static long[] lowest(long a, long b) {
        long g = java.math.BigInteger.valueOf(a).gcd(java.math.BigInteger.valueOf(b)).longValue();
        return new long[] {a / g, b / g};
    }

    long share(int i, int j, int what) {
        if (!pair(i, j) || what < 0 || what > 1) return BAD;
        int with = 0, all = 0;
        for (int[] p : all()) {
            all++;
            if (p[i] == j) with++;
        }
        return lowest(with, all)[what];
    }

    int ifMust(int i, int j, boolean must) {
        if (!pair(i, j)) return BAD;
        if (must && cost(i, j) == NONE) return NONE;
        List<int[]> some = new ArrayList<>();
        for (int[] p : all()) if ((p[i] == j) == must) some.add(p);
        return least(some, road.clock, 15) - least();
    }

    static boolean isAlone(int[] p, int end, int x) {
        if (end == 0) return p[x] == NONE;
        for (int j : p) if (j == x) return false;
        return true;
    }

    int alone(int end, int what) {
        if (at(end) == null || what < 0 || what > 2) return BAD;
        List<int[]> of = what == 2 ? all() : bests();
        int bits = 0;
        for (int x = 0; x < at(end).size(); x++) {
            int n = 0;
            for (int[] p : of) if (isAlone(p, end, x)) n++;
            if (what == 1 ? n > 0 : n == of.size()) bits |= 1 << x;
        }
        return bits;
    }

    int many(int what) {
        if (what < 0 || what > 1) return BAD;
        int fewest = 99, most = -1;
        for (int[] p : bests()) {
            fewest = Math.min(fewest, size(p));
            most = Math.max(most, size(p));
        }
        return what == 0 ? fewest : most;
    }

    long ways(int n) {
        if (n < 0 || n > 10) return BAD;
        int found = 0;
        for (int[] p : all()) if (size(p) == n) found++;
        return found;
    }

    // ---- what is told

    int tell(int i, int j) {
        if (i < 0 || i > 9 || j != NONE && (j < 0 || j > 9)) return BAD;
        int had = told[i];
        told[i] = j;
        return had;
    }

    int adopt() {
        int[] f = firstOne();
        for (int i = 0; i < 10; i++) told[i] = i < f.length ? f[i] : NONE;
        return size(f);
    }

    int judge(int what) {
        if (what < 0 || what > 3) return BAD;
        java.util.Set<Integer> had = new java.util.HashSet<>();
        for (int i = 0; i < in.size(); i++) {
            int j = told[i];
            if (j == NONE) continue;
            int wrong = 0;
            if (j >= out.size()) wrong = 1;
            else if (had.contains(j)) wrong = 2;
            else if (cost(i, j) == NONE) wrong = 3;
            if (wrong != 0) return what == 0 ? i : what == 1 ? wrong : NONE;
            had.add(j);
        }
        int t = total(java.util.Arrays.copyOf(told, in.size()), road.clock, 15);
        return what == 0 ? NONE : what == 1 ? 0 : what == 2 ? t : t - least();
    }

    static Integer cell(Object sheet, int i) {
        if (i < 0 || i >= java.lang.reflect.Array.getLength(sheet)) return null;
        return ((Number) java.lang.reflect.Array.get(sheet, i)).intValue();
    }

    static int laneOf(Object sheet) {
        return sheet instanceof byte[] ? 0 : sheet instanceof short[] ? 1 : 2;
    }

    int prices(int k, int lane, int f, int what) {
        if (k < 0 || k > 3 || lane < 0 || lane > 2 || what < 0 || what > 4) return -1000000;
        if (sheets[k] == null) return -1000011;
        if (laneOf(sheets[k]) != lane) return -1000013;
        int n = in.size(), m = out.size();
        int[] price = new int[n + m];
        int sum = 0;
        for (int i = 0; i < n + m; i++) {
            Integer c = cell(sheets[k], f + i);
            if (c == null) return -1000012;
            if (c < -999 || c > 999) return -1000020 - i;
            price[i] = c;
            sum += c;
        }
        int pairWrong = NONE, lineWrong = NONE;
        for (int i = n - 1; i >= 0; i--) {
            for (int j = 0; j < m; j++) {
                if (cost(i, j) != NONE && cost(i, j) < price[i] + price[n + j]) pairWrong = i;
            }
        }
        for (int x = n + m - 1; x >= 0; x--) {
            if (price[x] > (x < n ? road.off : road.joined)) lineWrong = x;
        }
        boolean hold = pairWrong == NONE && lineWrong == NONE;
        switch (what) {
            case 0: return hold ? 1 : 0;
            case 1: return pairWrong;
            case 2: return lineWrong;
            case 3: return hold ? sum : NONE;
            default: return hold ? least() - sum : NONE;
        }
    }

    // ---- times

    int times(int what) {
        if (what < 0 || what > 6) return -10000;
        List<Integer> times = new ArrayList<>();
        int[] f = firstOne();
        for (int i = 0; i < f.length; i++) {
            if (f[i] != NONE && (what < 5 || sure(i, f[i]) == 2)) times.add(took(i, f[i]));
        }
        if (what == 0) return times.size();
        if (times.isEmpty()) return -10004;
        if (what == 1) return java.util.Collections.min(times);
        if (what == 2) return java.util.Collections.max(times);
        long sum = 0;
        for (int t : times) sum += t;
        return (int) lowest(sum, times.size())[what == 3 || what == 5 ? 0 : 1];
    }

    int clock(int what) {
        if (what < 0 || what > 1) return -1000;
        int least = Integer.MAX_VALUE;
        List<Integer> those = new ArrayList<>();
        for (int c = -30; c <= 30; c++) {
            int t = least(pairings(c, 15), c, 15);
            if (t < least) {
                least = t;
                those.clear();
            }
            if (t == least) those.add(c);
        }
        if (what == 1) return least;
        int nearest = Integer.MAX_VALUE;
        for (int c : those) nearest = Math.min(nearest, Math.abs(c - road.clock));
        for (int c : those) if (Math.abs(c - road.clock) == nearest) return c;
        throw new IllegalStateException();
    }

    boolean passes(int[] f, int a, int b) {
        return f[a] != NONE && f[b] != NONE && in.get(a).minute > in.get(b).minute && out.get(f[a]).minute < out.get(f[b]).minute;
    }

    int passed(int what) {
        if (what < 0 || what > 2) return BAD;
        int[] f = firstOne();
        int n = f.length, all = 0, most = 0, who = NONE;
        for (int a = 0; a < n; a++) {
            int own = 0;
            for (int b = 0; b < n; b++) if (passes(f, a, b)) own++;
            all += own;
            if (own > most) {
                most = own;
                who = a;
            }
        }
        if (what == 0) return all;
        if (what == 2) return who;
        int fewest = 99;
        for (int gone = 0; gone < 1 << n; gone++) {
            boolean quiet = true;
            for (int a = 0; a < n; a++) {
                for (int b = 0; b < n; b++) {
                    if ((gone >> a & 1) == 0 && (gone >> b & 1) == 0 && passes(f, a, b)) quiet = false;
                }
            }
            if (quiet) fewest = Math.min(fewest, Integer.bitCount(gone));
        }
        return fewest;
    }

    int readsIn(int[] f, int x, int y) {
        int n = 0;
        for (int i = 0; i < f.length; i++) {
            if (f[i] == NONE) continue;
            for (int p = 0; p < 4; p++) {
                int a = in.get(i).signs[p], b = out.get(f[i]).signs[p];
                if ((a == x + 1 || a == x + 9) && (b == y + 1 || b == y + 9)) n++;
            }
        }
        return n;
    }

    int reads(int x, int y) {
        return letter(x) && letter(y) ? readsIn(firstOne(), x, y) : BAD;
    }

    int[] blamed() {
        int[] f = firstOne();
        int[] found = {NONE, NONE, 0};
        for (int x = 0; x < 8; x++) {
            for (int y = 0; y < 8; y++) {
                if (x != y && readsIn(f, x, y) > found[2]) found = new int[] {x, y, readsIn(f, x, y)};
            }
        }
        return found;
    }

    int blame(int what) {
        if (what < 0 || what > 2) return BAD;
        int[] b = blamed();
        return b[2] == 0 ? NONE : b[what];
    }

    int learn(int points) {
        if (points < 0 || points > 50) return BAD;
        int[] b = blamed();
        if (b[2] == 0) return STATE;
        int was = road.mixed[b[0]][b[1]];
        road.mixed[b[0]][b[1]] = points;
        return was;
    }

    int enough(int what) {
        if (what < 0 || what > 1) return BAD;
        int[] f = firstOne();
        int found = NONE;
        for (int set = 15; set >= 0; set--) {
            List<int[]> best = bestOf(pairings(road.clock, set), road.clock, set);
            boolean is = best.size() == 1 && java.util.Arrays.equals(best.get(0), f);
            if (is && (found == NONE || Integer.bitCount(set) <= Integer.bitCount(found))) found = set;
        }
        return found == NONE ? NONE : what == 0 ? Integer.bitCount(found) : found;
    }

    boolean oneCar(Line a, Line b) {
        for (int p = 0; p < 4; p++) {
            int x = a.signs[p], y = b.signs[p];
            boolean may = x == y || x > 8 || y > 8 || x == 0 || y == 0;
            if (!may) return false;
        }
        return a.colour == 0 || b.colour == 0 || a.colour == b.colour;
    }

    int round(int end, int a, int b) {
        if (!has(end, a) || !has(end, b) || a == b) return BAD;
        return oneCar(at(end).get(a), at(end).get(b)) ? 1 : 0;
    }

    int cars(int end, int what) {
        if (at(end) == null || what < 0 || what > 1) return BAD;
        return what == 0 ? at(end).size() : split(at(end), 0, new ArrayList<>());
    }

    private int split(List<Line> lines, int i, List<List<Line>> sets) {
        if (i == lines.size()) return sets.size();
        int best = Integer.MAX_VALUE;
        for (int s = 0; s < sets.size(); s++) {
            boolean fits = true;
            for (Line other : sets.get(s)) fits &= oneCar(other, lines.get(i));
            if (!fits) continue;
            sets.get(s).add(lines.get(i));
            best = Math.min(best, split(lines, i + 1, sets));
            sets.get(s).remove(sets.get(s).size() - 1);
        }
        List<Line> own = new ArrayList<>();
        own.add(lines.get(i));
        sets.add(own);
        best = Math.min(best, split(lines, i + 1, sets));
        sets.remove(sets.size() - 1);
        return best;
    }

    // ---- images, sheets

    static List<Line> copy(List<Line> lines) {
        List<Line> c = new ArrayList<>();
        for (Line l : lines) c.add(l.copy());
        return c;
    }

    int keep(int k) {
        if (k < 0 || k > 1) return BAD;
        int was = images[k] == null ? 0 : 1;
        images[k] = new Image();
        images[k].in = copy(in);
        images[k].out = copy(out);
        images[k].road = road.copy();
        images[k].told = told.clone();
        return was;
    }

    int back(int k) {
        if (k < 0 || k > 1) return BAD;
        if (images[k] == null) return STATE;
        in = copy(images[k].in);
        out = copy(images[k].out);
        road = images[k].road.copy();
        told = images[k].told.clone();
        return in.size() + out.size();
    }

    int sheet(int k, int lane, int n) {
        if (k < 0 || k > 3 || lane < 0 || lane > 2 || n > 64) return BAD;
        if (n < 0) return -14;
        sheets[k] = lane == 0 ? new byte[n] : lane == 1 ? new short[n] : (Object) new int[n];
        return 1;
    }

    int lay(int k, int i, int v) {
        if (k < 0 || k > 3) return BAD;
        if (sheets[k] == null) return -11;
        if (cell(sheets[k], i) == null) return -12;
        if (sheets[k] instanceof byte[]) ((byte[]) sheets[k])[i] = (byte) v;
        else if (sheets[k] instanceof short[]) ((short[]) sheets[k])[i] = (short) v;
        else ((int[]) sheets[k])[i] = v;
        return 1;
    }

    int read(int k, int lane, int f, int n, int end) {
        if (k < 0 || k > 3 || lane < 0 || lane > 2 || n < 0 || n > 10 || at(end) == null) return BAD;
        List<Line> come = new ArrayList<>();
        int fault = 0;
        lines:
        for (int i = 0; i < n; i++) {
            if (sheets[k] == null) { fault = 1; break; }
            if (laneOf(sheets[k]) != lane) { fault = 3; break; }
            int[] six = new int[6];
            for (int c = 0; c < 6; c++) {
                Integer v = cell(sheets[k], f + 6 * i + c);
                if (v == null) { fault = 2; break lines; }
                six[c] = v;
            }
            boolean good = six[0] >= 0 && six[0] <= 999 && six[5] >= 0 && six[5] <= 6;
            for (int c = 1; c < 5; c++) good &= six[c] >= 0 && six[c] <= 16;
            if (!good) return -20 - i;
            if (at(end).size() + come.size() >= 10) return FULL;
            Line l = new Line();
            l.minute = six[0];
            l.signs = new int[] {six[1], six[2], six[3], six[4]};
            l.colour = six[5];
            come.add(l);
        }
        at(end).addAll(come);
        lastTorn = fault;
        return come.size();
    }

    int torn() {
        return lastTorn;
    }

    int count(int what) {
        switch (what) {
            case 0: return in.size();
            case 1: return out.size();
            case 2:
                int n = 0;
                for (int i = 0; i < in.size(); i++) for (int j = 0; j < out.size(); j++) if (cost(i, j) != NONE) n++;
                return n;
            case 3: return (images[0] == null ? 0 : 1) + (images[1] == null ? 0 : 1);
            case 4: return tape.length();
            case 5: return sheets[0] == null ? NONE : java.lang.reflect.Array.getLength(sheets[0]);
            default: return BAD;
        }
    }
}
