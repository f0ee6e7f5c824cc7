import java.util.Arrays;
import java.util.Random;

/** Ends with up to ten lines: answers held against sums over (line of IN, set of lines of OUT), kept in a table. */
public final class BigTest {
    private static final int NONE = -4;
    private static final Due DUE = new Due("BigTest");

    private final HalfNumber x = new HalfNumber();
    private final int ins, outs;
    private final int[][] cost;
    private int off, joined;
    private int mustI = NONE, mustJ = NONE, notI = NONE, notJ = NONE;
    private int[][] leasts;
    private long[][] bests;
    private long[][] alls;

    private BigTest(int ins, int outs, long seed, String road, int spread) {
        this.ins = ins;
        this.outs = outs;
        cost = new int[ins][outs];
        Random random = new Random(seed);
        if (Due.road(x, road) < 0) throw new IllegalArgumentException(road);
        for (int i = 0; i < ins; i++) x.line(0, random.nextInt(spread), plate(random), random.nextInt(3));
        for (int j = 0; j < outs; j++) x.line(1, 30 + random.nextInt(spread), plate(random), random.nextInt(3));
        look();
    }

    private static int plate(Random random) {
        int plate = 0;
        for (int p = 0; p < 4; p++) plate = plate * 17 + new int[] {1, 1, 1, 1, 2, 9, 10, 0}[random.nextInt(8)];
        return plate;
    }

    public static void main(String[] args) {
        String[] roads = {"", "mixed a b 3; mixed b a 4;", "mixed a b 0; mixed b a 0; unread 0; minutes 0 99 30 0; doubt 0; colour 0;",
            "minutes 20 40 30 2; mixed b a 1; off 30; joined 25;", "mixed a b 1; off 1; joined 2;", "mixed a b 9; mixed b a 9; off 99; joined 99; minutes 0 500 0 9;"};
        for (int seed = 0; seed < 36; seed++) {
            int ins = seed % 3 == 0 ? 10 : 6 + seed % 5;
            int outs = seed % 4 == 0 ? 10 : 6 + seed * 7 % 5;
            new BigTest(ins, outs, seed, roads[seed % roads.length], seed % 5 == 0 ? 2 : 20).ask();
        }
        new BigTest(10, 1, 1, roads[1], 9).ask();
        new BigTest(1, 10, 2, roads[1], 9).ask();
        new BigTest(10, 0, 3, roads[1], 9).ask();
        new BigTest(0, 10, 4, roads[1], 9).ask();
        everyPairEqual();
        DUE.close();
    }

    private void look() {
        off = x.rule(7);
        joined = x.rule(8);
        for (int i = 0; i < ins; i++) for (int j = 0; j < outs; j++) cost[i][j] = x.cost(i, j);
        solve();
    }

    private void solve() {
        leasts = new int[ins + 1][1 << outs];
        bests = new long[ins + 1][1 << outs];
        alls = new long[ins + 1][1 << outs];
        for (int set = 0; set < 1 << outs; set++) {
            leasts[ins][set] = joined * (outs - Integer.bitCount(set));
            bests[ins][set] = 1;
            alls[ins][set] = 1;
        }
        for (int i = ins - 1; i >= 0; i--) for (int set = 0; set < 1 << outs; set++) solve(i, set);
    }

    private void solve(int i, int set) {
        leasts[i][set] = 1 << 28;
        for (int j = -1; j < outs; j++) {
            if (j < 0 ? mustI == i : !may(i, j) || (set >> j & 1) == 1) continue;
            int next = j < 0 ? set : set | 1 << j;
            int total = leasts[i + 1][next] + (j < 0 ? off : cost[i][j]);
            alls[i][set] += alls[i + 1][next];
            if (total < leasts[i][set]) {
                leasts[i][set] = total;
                bests[i][set] = 0;
            }
            if (total == leasts[i][set]) bests[i][set] += bests[i + 1][next];
        }
    }

    private boolean may(int i, int j) {
        if (cost[i][j] == NONE || i == notI && j == notJ) return false;
        return mustI == NONE || (i == mustI) == (j == mustJ);
    }

    private long[] with(int i, int j) {
        mustI = i;
        mustJ = j;
        solve();
        mustI = NONE;
        mustJ = NONE;
        return new long[] {leasts[0][0], alls[0][0], bests[0][0]};
    }

    private int without(int i, int j) {
        notI = i;
        notJ = j;
        solve();
        notI = NONE;
        notJ = NONE;
        return leasts[0][0];
    }

    private int[] first() {
        int[] found = new int[ins];
        int set = 0;
        for (int i = 0; i < ins; i++) {
            found[i] = NONE;
            for (int j = 0; j < outs && found[i] == NONE; j++) {
                if (cost[i][j] == NONE || (set >> j & 1) == 1) continue;
                if (cost[i][j] + leasts[i + 1][set | 1 << j] == leasts[i][set]) found[i] = j;
            }
            set |= found[i] == NONE ? 0 : 1 << found[i];
        }
        return found;
    }

    private void ask() {
        int least = leasts[0][0];
        long best = bests[0][0], all = alls[0][0];
        DUE.is("least", x.best(0), least);
        DUE.is("best", x.best(1), best);
        DUE.is("all", x.best(2), all);
        long sum = 0;
        for (int n = 0; n <= 10; n++) sum += x.ways(n);
        DUE.is("ways together", sum, all);
        int[] first = first();
        for (int i = 0; i < ins; i++) DUE.is("first " + i, x.first(i), first[i]);
        int inAlone = 0, inSome = 0;
        int[] paired = new int[outs];
        long[] outBest = new long[outs];
        for (int i = 0; i < ins; i++) {
            long inBest = 0;
            for (int j = 0; j < outs; j++) {
                if (cost[i][j] == NONE) {
                    DUE.is("must", x.ifMust(i, j, true), NONE);
                    continue;
                }
                paired[j]++;
                long[] with = with(i, j);
                long inThis = with[0] == least ? with[2] : 0;
                inBest += inThis;
                outBest[j] += inThis;
                DUE.is("must", x.ifMust(i, j, true), with[0] - least);
                DUE.is("sure", x.sure(i, j), inThis == best ? 2 : inThis > 0 ? 1 : 0);
                DUE.is("must not", x.ifMust(i, j, false), without(i, j) - least);
                if ((i + j) % 4 == 0) DUE.is("share", x.share(i, j, 0) * all, with[1] * x.share(i, j, 1));
            }
            inAlone |= inBest == 0 ? 1 << i : 0;
            inSome |= inBest < best ? 1 << i : 0;
        }
        DUE.is("alone in all best", x.alone(0, 0), inAlone);
        DUE.is("alone in some best", x.alone(0, 1), inSome);
        int outAlone = 0, outSome = 0, never = 0;
        for (int j = 0; j < outs; j++) {
            outAlone |= outBest[j] == 0 ? 1 << j : 0;
            outSome |= outBest[j] < best ? 1 << j : 0;
            never |= paired[j] == 0 ? 1 << j : 0;
        }
        DUE.is("OUT alone in all best", x.alone(1, 0), outAlone);
        DUE.is("OUT alone in some best", x.alone(1, 1), outSome);
        DUE.is("OUT alone in all", x.alone(1, 2), never);
        DUE.is("adopted", x.adopt(), Arrays.stream(first).filter(j -> j != NONE).count());
        DUE.is("judged", x.judge(3), 0);
        askOfFirst(first);
        askPrices(least);
        for (int end = 0; end < 2; end++) DUE.is("fewest cars", x.cars(end, 1), fewestCars(end));
        askManyAndClock(least);
    }

    private void askOfFirst(int[] first) {
        int pairs = 0, sum = 0, passings = 0, most = 0, passer = NONE;
        int[][] reads = new int[8][8];
        int[] passed = new int[ins];
        for (int a = 0; a < ins; a++) {
            if (first[a] == NONE) continue;
            pairs++;
            sum += x.took(a, first[a]);
            for (int p = 10; p < 14; p++) {
                int in = x.of(0, a, p), out = x.of(1, first[a], p);
                if (in > 0 && out > 0) reads[(in + 7) % 8][(out + 7) % 8]++;
            }
            for (int b = 0; b < ins; b++) {
                if (first[b] == NONE || x.of(0, a, 0) <= x.of(0, b, 0) || x.of(1, first[a], 0) >= x.of(1, first[b], 0)) continue;
                passings++;
                passed[a]++;
            }
            if (passed[a] > most) {
                most = passed[a];
                passer = a;
            }
        }
        DUE.is("pairs of the first", x.times(0), pairs);
        if (pairs > 0) DUE.is("mean", (long) x.times(3) * pairs, (long) sum * x.times(4));
        DUE.is("passings", x.passed(0), passings);
        DUE.is("passer", x.passed(2), passer);
        DUE.is("fewest without passing", x.passed(1), pairs - longestOrder(first));
        for (int a = 0; a < 8; a++) for (int b = 0; b < 8; b++) DUE.is("reads", x.reads(a, b), reads[a][b]);
        DUE.is("blame", x.blame(2), Math.max(reads[0][1], reads[1][0]) == 0 ? NONE : Math.max(reads[0][1], reads[1][0]));
    }

    /** The most pairs that came out in the order in which they went in. */
    private int longestOrder(int[] first) {
        Integer[] order = java.util.stream.IntStream.range(0, ins).filter(i -> first[i] != NONE).boxed().toArray(Integer[]::new);
        Arrays.sort(order, java.util.Comparator.<Integer>comparingInt(i -> x.of(0, i, 0)).thenComparingInt(i -> x.of(1, first[i], 0)));
        int[] longest = new int[order.length];
        int most = 0;
        for (int a = 0; a < order.length; a++) {
            longest[a] = 1;
            for (int b = 0; b < a; b++) {
                if (x.of(1, first[order[b]], 0) <= x.of(1, first[order[a]], 0)) longest[a] = Math.max(longest[a], longest[b] + 1);
            }
            most = Math.max(most, longest[a]);
        }
        return most;
    }

    private void askPrices(int least) {
        x.sheet(3, 2, ins + outs + 1);
        x.lay(3, 0, 1000);
        int sum = 0;
        for (int i = 0; i < ins; i++) {
            // all of a line's cost is its own price: lines of OUT have 0
            int price = off;
            for (int j = 0; j < outs; j++) if (cost[i][j] != NONE) price = Math.min(price, cost[i][j]);
            x.lay(3, 1 + i, price);
            sum += price;
        }
        DUE.is("prices hold", x.prices(3, 2, 1, 0), 1);
        DUE.is("they prove", x.prices(3, 2, 1, 3), sum);
        DUE.is("less than best", x.prices(3, 2, 1, 4), least - sum);
        DUE.is("one cell too far", x.prices(3, 2, 2, 4), -1000012);
        if (outs > 0) {
            x.lay(3, ins + outs, joined + 1);
            DUE.is("the last line's is too great", x.prices(3, 2, 1, 2), ins + outs - 1);
        }
    }

    /** Lines go one by one into the cars there are or a new one, all ways tried that can still be better. */
    private int fewestCars(int end) {
        return fewestCars(end, 0, new int[10], 0, 10);
    }

    private int fewestCars(int end, int line, int[] members, int cars, int best) {
        int size = end == 0 ? ins : outs;
        if (line == size) return Math.min(cars, best);
        if (cars >= best) return best;
        int mates = 0;
        for (int k = 0; k < line; k++) mates |= x.round(end, line, k) << k;
        for (int c = 0; c <= cars; c++) {
            if (c < cars && (members[c] & ~mates) != 0 || c == 10) continue;
            int was = members[c];
            members[c] = (c == cars ? 0 : was) | 1 << line;
            best = fewestCars(end, line + 1, members, Math.max(cars, c + 1), best);
            members[c] = was;
        }
        return best;
    }

    private void askManyAndClock(int least) {
        // of the same least total, one more point for each line alone leaves those with the most pairs, one less the fewest
        int was = off;
        int[][] costs = cost;
        for (int i = 0; i < ins; i++) for (int j = 0; j < outs; j++) if (costs[i][j] != NONE) costs[i][j] *= 100;
        joined *= 100;
        off = was * 100 + 1;
        solve();
        DUE.is("most", x.many(1), ins - (leasts[0][0] - 100L * least));
        off = was * 100 - 1;
        solve();
        DUE.is("fewest", x.many(0), ins + (leasts[0][0] - 100L * least));
        long bestTotal = Long.MAX_VALUE;
        int chosen = 0;
        int old = x.rule(9);
        for (int c = -30; c <= 30; c++) {
            x.setClock(c);
            long total = x.best(0);
            if (total < bestTotal || total == bestTotal && Math.abs(c - old) < Math.abs(chosen - old)) {
                bestTotal = total;
                chosen = c;
            }
        }
        x.setClock(old);
        DUE.is("clock", x.clock(0), chosen);
        DUE.is("its total", x.clock(1), bestTotal);
    }

    /** More than that no best pairings can be: every pairing there is is one. */
    private static void everyPairEqual() {
        HalfNumber x = new HalfNumber();
        Due.road(x, "off 0; joined 0; unread 0;");
        for (int k = 0; k < 10; k++) {
            x.line(0, 0, 0, 0);
            x.line(1, 30, 0, 0);
        }
        DUE.is("all are best", x.best(1), 234662231L);
        DUE.is("all", x.best(2), 234662231L);
        DUE.is("share", x.share(4, 7, 0), 17572114L);
        DUE.is("fewest", x.many(0), 0);
        DUE.is("most", x.many(1), 10);
        for (int i = 0; i < 10; i++) DUE.is("first", x.first(i), i);
        DUE.is("enough", x.enough(0), NONE);
    }
}
