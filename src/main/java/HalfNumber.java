import java.util.Arrays;

/**
 * Lines written down at both ends of a road, and which line of one end may be which of the other.
 * The document DOC.md says what each call answers; nothing is kept between calls but what it names,
 * so every question is worked out anew from the lines and the road.
 */
public final class HalfNumber {
    public static final int BAD = -1, STATE = -2, FULL = -3, NONE = -4;

    private static final int IN = 0, OUT = 1;
    private static final int MOST_LINES = 10;
    private static final int MOST_MINUTE = 999;
    private static final int MOST_COLOUR = 6;
    private static final int PLACES = 4;
    private static final int ALL_PLACES = 15;
    private static final int SIGNS = 17;
    private static final int PLATES = SIGNS * SIGNS * SIGNS * SIGNS;
    private static final int LETTERS = 8;
    private static final int MOST_POINTS = 50;
    private static final int LINE_SETS = 1 << MOST_LINES;
    private static final int CELLS_OF_A_LINE = 2 + PLACES;

    private static final int LEAST = 0, MOST = 1, USUAL = 2, MINUTE = 3, DOUBT = 4, UNREAD = 5;
    private static final int COLOUR = 6, OFF = 7, JOINED = 8, CLOCK = 9;
    private static final int RULES = 10;

    private static final int NULL_FAULT = 1, INDEX_FAULT = 2, CAST_FAULT = 3, SIZE_FAULT = 4;

    private static final int BAD_RULE = -1000, BAD_TIME = -10000, NO_TIME = -10004;
    private static final int BAD_PRICE = -1000000, PRICE_FAULT = -1000010, PRICE_BOUND = -1000020;
    private static final int WIDEST_PRICE = 999;
    private static final int FARTHEST_CLOCK = 30, MOST_CLOCK = 99;

    private final Scene now;
    private final Scene[] images;
    private final Sheet[] sheets;
    private final Tape tape;
    private final Road newRoad;
    private final Pairs pairs;
    private final Pairings pairings;
    private final Counter counter;
    private final Groups groups;
    private final int[] priceRow;
    private final int[] readCounts;
    private int tornBy;

    public HalfNumber() {
        now = new Scene();
        images = new Scene[] {new Scene(), new Scene()};
        sheets = new Sheet[] {new Sheet(), new Sheet(), new Sheet(), new Sheet()};
        tape = new Tape();
        newRoad = new Road();
        pairs = new Pairs();
        pairings = new Pairings(pairs);
        counter = new Counter();
        groups = new Groups();
        priceRow = new int[2 * MOST_LINES];
        readCounts = new int[LETTERS * LETTERS];
        tornBy = 0;
    }

    // ---- the text

    public int feed(long v) {
        return tape.append(v) ? tape.length : FULL;
    }

    public int end(int n) {
        int had = tape.length;
        if (!within(n, 0, had)) {
            return BAD;
        }
        tape.length = n;
        return had;
    }

    public int road() {
        int answer = tape.tellRoad(newRoad);
        if (answer >= 0) {
            now.road.copyFrom(newRoad);
        }
        return answer;
    }

    public int fault() {
        return tape.faultKind;
    }

    public int rule(int what) {
        return within(what, 0, RULES - 1) ? now.road.rules[what] : BAD_RULE;
    }

    public int mixed(int x, int y) {
        if (!isLetter(x) || !isLetter(y) || x == y) {
            return BAD;
        }
        return now.road.mixes[x * LETTERS + y];
    }

    public int setClock(int v) {
        if (!within(v, -MOST_CLOCK, MOST_CLOCK)) {
            return BAD_RULE;
        }
        int was = now.road.rules[CLOCK];
        now.road.rules[CLOCK] = v;
        return was;
    }

    // ---- lines

    public int line(int end, int minute, int plate, int colour) {
        if (!isEnd(end) || !within(minute, 0, MOST_MINUTE)
                || !within(plate, 0, PLATES - 1) || !within(colour, 0, MOST_COLOUR)) {
            return BAD;
        }
        Lines lines = linesAt(end);
        if (lines.size >= MOST_LINES) {
            return FULL;
        }
        int number = lines.append(minute, colour);
        lines.setPlate(number, plate);
        return number;
    }

    public int drop(int end, int i) {
        if (!hasLine(end, i)) {
            return BAD;
        }
        Lines lines = linesAt(end);
        lines.remove(i);
        return lines.size;
    }

    public int of(int end, int i, int what) {
        if (!hasLine(end, i)) {
            return BAD;
        }
        Lines lines = linesAt(end);
        switch (what) {
            case 0: return lines.minutes[i];
            case 1: return lines.plateOf(i);
            case 2: return lines.colours[i];
            default: return within(what, 10, 9 + PLACES) ? lines.signs[i * PLACES + what - 10] : BAD;
        }
    }

    public int sign(int end, int i, int place, int s) {
        if (!hasLine(end, i) || !within(place, 0, PLACES - 1) || !within(s, 0, SIGNS - 1)) {
            return BAD;
        }
        Lines lines = linesAt(end);
        int was = lines.signs[i * PLACES + place];
        lines.signs[i * PLACES + place] = s;
        return was;
    }

    // ---- pairs, pairings

    public int took(int i, int j) {
        return hasPair(i, j) ? tookNow(i, j) : BAD_TIME;
    }

    public int cost(int i, int j) {
        if (!hasPair(i, j)) {
            return BAD;
        }
        lookAtPairs(ALL_PLACES);
        return pairs.costOf(i, j);
    }

    public int why(int i, int j) {
        if (!hasPair(i, j)) {
            return BAD;
        }
        int[] rules = now.road.rules;
        int bits = within(tookNow(i, j), rules[LEAST], rules[MOST]) ? 0 : 1 << PLACES;
        for (int place = 0; place < PLACES; place++) {
            int x = now.in.signs[i * PLACES + place];
            int y = now.out.signs[j * PLACES + place];
            if (now.road.pointsOf(x, y) == NONE) {
                bits |= 1 << place;
            }
        }
        return bits;
    }

    public long best(int what) {
        if (!within(what, 0, 3)) {
            return BAD;
        }
        lookAtPairs(ALL_PLACES);
        switch (what) {
            case 0: return pairings.leastTotal();
            case 1: return counter.countBest(pairs);
            case 2: return counter.countAll(pairs, NONE, NONE);
            default: return pairs.totalOfNone;
        }
    }

    public int first(int i) {
        if (!now.in.has(i)) {
            return BAD;
        }
        findFirst();
        return pairings.partners[i];
    }

    public int sure(int i, int j) {
        if (!hasPair(i, j)) {
            return BAD;
        }
        lookAtPairs(ALL_PLACES);
        if (!pairs.mayBe(i, j) || pairings.leastWith(i, j) > pairings.leastTotal()) {
            return 0;
        }
        return pairings.isInAllBest(i, j) ? 2 : 1;
    }

    public long share(int i, int j, int what) {
        if (!hasPair(i, j) || !within(what, 0, 1)) {
            return BAD;
        }
        lookAtPairs(ALL_PLACES);
        long with = pairs.mayBe(i, j) ? counter.countAll(pairs, i, j) : 0;
        long all = counter.countAll(pairs, NONE, NONE);
        return partOfFraction(with, all, what);
    }

    public int ifMust(int i, int j, boolean must) {
        if (!hasPair(i, j)) {
            return BAD;
        }
        lookAtPairs(ALL_PLACES);
        if (!must) {
            return (int) (pairings.leastWithout(i, j) - pairings.leastTotal());
        }
        return pairs.mayBe(i, j) ? (int) (pairings.leastWith(i, j) - pairings.leastTotal()) : NONE;
    }

    public int alone(int end, int what) {
        if (!isEnd(end) || !within(what, 0, 2)) {
            return BAD;
        }
        lookAtPairs(ALL_PLACES);
        int bits = 0;
        int size = linesAt(end).size;
        for (int x = 0; x < size; x++) {
            if (what == 2 ? pairs.mayBeNone(end, x) : pairings.isAlone(end, x, what == 0)) {
                bits |= 1 << x;
            }
        }
        return bits;
    }

    public int many(int what) {
        if (!within(what, 0, 1)) {
            return BAD;
        }
        lookAtPairs(ALL_PLACES);
        return what == 0 ? pairings.fewestInBest() : pairings.mostInBest();
    }

    public long ways(int n) {
        if (!within(n, 0, MOST_LINES)) {
            return BAD;
        }
        lookAtPairs(ALL_PLACES);
        counter.spreadAll(pairs, NONE, NONE);
        return counter.countOfSize(pairs, n);
    }

    // ---- what is told

    public int tell(int i, int j) {
        if (!within(i, 0, MOST_LINES - 1) || (j != NONE && !within(j, 0, MOST_LINES - 1))) {
            return BAD;
        }
        int had = now.told[i];
        now.told[i] = j;
        return had;
    }

    public int adopt() {
        findFirst();
        System.arraycopy(pairings.partners, 0, now.told, 0, MOST_LINES);
        return pairings.countFirst();
    }

    public int judge(int what) {
        if (!within(what, 0, 3)) {
            return BAD;
        }
        lookAtPairs(ALL_PLACES);
        int wrong = firstWrong();
        switch (what) {
            case 0: return wrong;
            case 1: return wrong == NONE ? 0 : faultOfTold(wrong);
            case 2: return wrong == NONE ? toldTotal() : NONE;
            default: return wrong == NONE ? (int) (toldTotal() - pairings.leastTotal()) : NONE;
        }
    }

    public int prices(int k, int lane, int f, int what) {
        if (!isSheet(k) || !isLane(lane) || !within(what, 0, 4)) {
            return BAD_PRICE;
        }
        int refused = copyPrices(sheets[k], lane, f);
        if (refused != 0) {
            return refused;
        }
        lookAtPairs(ALL_PLACES);
        int badPair = firstUnderpriced();
        int badLine = firstOverpriced();
        boolean hold = badPair == NONE && badLine == NONE;
        switch (what) {
            case 0: return hold ? 1 : 0;
            case 1: return badPair;
            case 2: return badLine;
            case 3: return hold ? sumOfPrices() : NONE;
            default: return hold ? (int) (pairings.leastTotal() - sumOfPrices()) : NONE;
        }
    }

    // ---- times, clocks, mistakes

    public int times(int what) {
        if (!within(what, 0, 6)) {
            return BAD_TIME;
        }
        findFirst();
        if (what == 0) {
            return pairings.countFirst();
        }
        if (what <= 2) {
            return extremeTime(what == 1);
        }
        return meanTime(what >= 5, (what - 3) % 2);
    }

    public int clock(int what) {
        if (!within(what, 0, 1)) {
            return BAD_RULE;
        }
        int told = now.road.rules[CLOCK];
        int chosen = -FARTHEST_CLOCK;
        long least = Matcher.FAR;
        pairs.comparePlates(now, ALL_PLACES);
        for (int c = -FARTHEST_CLOCK; c <= FARTHEST_CLOCK; c++) {
            pairs.addTimes(now, c);
            long total = pairings.leastTotal();
            if (total < least || (total == least && Math.abs(c - told) < Math.abs(chosen - told))) {
                least = total;
                chosen = c;
            }
        }
        return what == 0 ? chosen : (int) least;
    }

    public int passed(int what) {
        if (!within(what, 0, 2)) {
            return BAD;
        }
        findFirst();
        switch (what) {
            case 0: return allPassings();
            case 1: return fewestWithoutPassing();
            default: return greatestPasser();
        }
    }

    public int reads(int x, int y) {
        if (!isLetter(x) || !isLetter(y)) {
            return BAD;
        }
        findFirst();
        countReads();
        return readCounts[x * LETTERS + y];
    }

    public int blame(int what) {
        if (!within(what, 0, 2)) {
            return BAD;
        }
        findFirst();
        countReads();
        int most = mostMistaken();
        if (most == NONE) {
            return NONE;
        }
        switch (what) {
            case 0: return most / LETTERS;
            case 1: return most % LETTERS;
            default: return readCounts[most];
        }
    }

    public int learn(int points) {
        if (!within(points, 0, MOST_POINTS)) {
            return BAD;
        }
        findFirst();
        countReads();
        int most = mostMistaken();
        if (most == NONE) {
            return STATE;
        }
        int was = now.road.mixes[most];
        now.road.mixes[most] = points;
        return was;
    }

    public int enough(int what) {
        if (!within(what, 0, 1)) {
            return BAD;
        }
        int set = fewestPlaces();
        return set == NONE || what == 1 ? set : Integer.bitCount(set);
    }

    public int round(int end, int a, int b) {
        if (!hasLine(end, a) || !hasLine(end, b) || a == b) {
            return BAD;
        }
        return linesAt(end).mayBeOneCar(a, b) ? 1 : 0;
    }

    public int cars(int end, int what) {
        if (!isEnd(end) || !within(what, 0, 1)) {
            return BAD;
        }
        Lines lines = linesAt(end);
        return what == 0 ? lines.size : fewestCars(lines);
    }

    // ---- images, sheets

    public int keep(int k) {
        if (!isImage(k)) {
            return BAD;
        }
        int was = images[k].kept ? 1 : 0;
        images[k].copyFrom(now);
        images[k].kept = true;
        return was;
    }

    public int back(int k) {
        if (!isImage(k)) {
            return BAD;
        }
        if (!images[k].kept) {
            return STATE;
        }
        now.copyFrom(images[k]);
        return now.in.size + now.out.size;
    }

    public int sheet(int k, int lane, int n) {
        if (!isSheet(k) || !isLane(lane) || n > Sheet.MOST_CELLS) {
            return BAD;
        }
        if (n < 0) {
            return -10 - SIZE_FAULT;
        }
        sheets[k].renew(lane, n);
        return 1;
    }

    public int lay(int k, int i, int v) {
        if (!isSheet(k)) {
            return BAD;
        }
        Sheet target = sheets[k];
        if (!target.there) {
            return -10 - NULL_FAULT;
        }
        if (!within(i, 0, target.size - 1)) {
            return -10 - INDEX_FAULT;
        }
        target.put(i, v);
        return 1;
    }

    public int read(int k, int lane, int f, int n, int end) {
        if (!isSheet(k) || !isLane(lane) || !within(n, 0, MOST_LINES) || !isEnd(end)) {
            return BAD;
        }
        Sheet source = sheets[k];
        int found = n == 0 ? 0 : source.faultAs(lane);
        int whole = found == 0 ? Math.min(n, source.wholeLines(f)) : 0;
        if (found == 0 && whole < n) {
            found = INDEX_FAULT;
        }
        Lines lines = linesAt(end);
        int refused = refusalOfLines(source, f, whole, lines);
        if (refused != 0) {
            return refused;
        }
        for (int i = 0; i < whole; i++) {
            source.appendLine(f + CELLS_OF_A_LINE * i, lines);
        }
        tornBy = found;
        return whole;
    }

    public int torn() {
        return tornBy;
    }

    public int count(int what) {
        switch (what) {
            case 0: return now.in.size;
            case 1: return now.out.size;
            case 2: return countPairs();
            case 3: return (images[0].kept ? 1 : 0) + (images[1].kept ? 1 : 0);
            case 4: return tape.length;
            case 5: return sheets[0].there ? sheets[0].size : NONE;
            default: return BAD;
        }
    }

    // ---- what is there

    private static boolean within(int v, int least, int most) {
        return v >= least && v <= most;
    }

    private static boolean isEnd(int end) {
        return end == IN || end == OUT;
    }

    private static boolean isLetter(int x) {
        return within(x, 0, LETTERS - 1);
    }

    private boolean isImage(int k) {
        return within(k, 0, images.length - 1);
    }

    private boolean isSheet(int k) {
        return within(k, 0, sheets.length - 1);
    }

    private static boolean isLane(int lane) {
        return within(lane, 0, 2);
    }

    private Lines linesAt(int end) {
        return end == IN ? now.in : now.out;
    }

    private boolean hasLine(int end, int i) {
        return isEnd(end) && linesAt(end).has(i);
    }

    private boolean hasPair(int i, int j) {
        return now.in.has(i) && now.out.has(j);
    }

    private int tookNow(int i, int j) {
        return now.tookBy(i, j, now.road.rules[CLOCK]);
    }

    private void lookAtPairs(int places) {
        pairs.comparePlates(now, places);
        pairs.addTimes(now, now.road.rules[CLOCK]);
    }

    private void findFirst() {
        lookAtPairs(ALL_PLACES);
        pairings.findFirst();
    }

    private int countPairs() {
        lookAtPairs(ALL_PLACES);
        int found = 0;
        for (int i = 0; i < pairs.ins; i++) {
            for (int j = 0; j < pairs.outs; j++) {
                found += pairs.mayBe(i, j) ? 1 : 0;
            }
        }
        return found;
    }

    /** The numerator (part 0) or the denominator (part 1) of a fraction, in lowest terms. */
    private static long partOfFraction(long above, long below, int part) {
        long common = below;
        long rest = above;
        // Euclid's numbers halve every two steps: a long is done within 128.
        for (int step = 0; step < 128 && rest != 0; step++) {
            long next = common % rest;
            common = rest;
            rest = next;
        }
        long whole = part == 0 ? above : below;
        return common == 0 ? whole : whole / common;
    }

    // ---- what is told

    private int firstWrong() {
        for (int i = 0; i < now.in.size; i++) {
            if (faultOfTold(i) != 0) {
                return i;
            }
        }
        return NONE;
    }

    private int faultOfTold(int i) {
        int j = now.told[i];
        if (j == NONE) {
            return 0;
        }
        if (!now.out.has(j)) {
            return 1;
        }
        for (int earlier = 0; earlier < i; earlier++) {
            if (now.told[earlier] == j) {
                return 2;
            }
        }
        return pairs.mayBe(i, j) ? 0 : 3;
    }

    private int toldTotal() {
        int total = pairs.totalOfNone;
        for (int i = 0; i < now.in.size; i++) {
            if (now.told[i] != NONE) {
                total += pairs.gainOf(i, now.told[i]);
            }
        }
        return total;
    }

    /** Prices of all lines come into the price row; 0, or what is answered in place of them. */
    private int copyPrices(Sheet source, int lane, int f) {
        int found = source.faultAs(lane);
        if (found != 0) {
            return PRICE_FAULT - found;
        }
        int lines = now.in.size + now.out.size;
        for (int i = 0; i < lines; i++) {
            // f + i could run over: the room behind f is asked instead.
            if (f < 0 || f >= source.size - i) {
                return PRICE_FAULT - INDEX_FAULT;
            }
            int price = source.cells[f + i];
            if (!within(price, -WIDEST_PRICE, WIDEST_PRICE)) {
                return PRICE_BOUND - i;
            }
            priceRow[i] = price;
        }
        return 0;
    }

    private int firstUnderpriced() {
        for (int i = 0; i < pairs.ins; i++) {
            for (int j = 0; j < pairs.outs; j++) {
                if (pairs.mayBe(i, j) && priceRow[i] + priceRow[pairs.ins + j] > pairs.costOf(i, j)) {
                    return i;
                }
            }
        }
        return NONE;
    }

    private int firstOverpriced() {
        for (int x = 0; x < pairs.ins + pairs.outs; x++) {
            if (priceRow[x] > now.road.rules[x < pairs.ins ? OFF : JOINED]) {
                return x;
            }
        }
        return NONE;
    }

    private int sumOfPrices() {
        int sum = 0;
        for (int x = 0; x < pairs.ins + pairs.outs; x++) {
            sum += priceRow[x];
        }
        return sum;
    }

    // ---- the first of the best

    private int extremeTime(boolean least) {
        int found = NO_TIME;
        for (int i = 0; i < pairs.ins; i++) {
            int j = pairings.partners[i];
            if (j != NONE) {
                int time = tookNow(i, j);
                boolean better = least ? time < found : time > found;
                found = found == NO_TIME || better ? time : found;
            }
        }
        return found;
    }

    private int meanTime(boolean sureOnly, int part) {
        int sum = 0;
        int found = 0;
        for (int i = 0; i < pairs.ins; i++) {
            int j = pairings.partners[i];
            if (j != NONE && (!sureOnly || pairings.isInAllBest(i, j))) {
                sum += tookNow(i, j);
                found++;
            }
        }
        return found == 0 ? NO_TIME : (int) partOfFraction(sum, found, part);
    }

    private boolean hasPassed(int a, int b) {
        int ofA = pairings.partners[a];
        int ofB = pairings.partners[b];
        if (ofA == NONE || ofB == NONE) {
            return false;
        }
        return now.in.minutes[a] > now.in.minutes[b] && now.out.minutes[ofA] < now.out.minutes[ofB];
    }

    private int passingsOf(int a) {
        int found = 0;
        for (int b = 0; b < pairs.ins; b++) {
            found += hasPassed(a, b) ? 1 : 0;
        }
        return found;
    }

    private int allPassings() {
        int found = 0;
        for (int a = 0; a < pairs.ins; a++) {
            found += passingsOf(a);
        }
        return found;
    }

    private int greatestPasser() {
        int greatest = NONE;
        int most = 0;
        for (int a = 0; a < pairs.ins; a++) {
            int found = passingsOf(a);
            if (found > most) {
                most = found;
                greatest = a;
            }
        }
        return greatest;
    }

    private int fewestWithoutPassing() {
        groups.begin(pairs.ins);
        for (int a = 0; a < pairs.ins; a++) {
            for (int b = 0; b < a; b++) {
                if (!hasPassed(a, b) && !hasPassed(b, a)) {
                    groups.join(a, b);
                }
            }
        }
        return pairs.ins - groups.largest();
    }

    private void countReads() {
        Arrays.fill(readCounts, 0);
        for (int i = 0; i < pairs.ins; i++) {
            int j = pairings.partners[i];
            if (j != NONE) {
                countReadsOf(i, j);
            }
        }
    }

    private void countReadsOf(int i, int j) {
        for (int place = 0; place < PLACES; place++) {
            int x = now.in.signs[i * PLACES + place];
            int y = now.out.signs[j * PLACES + place];
            if (x != 0 && y != 0) {
                readCounts[Lines.letterOf(x) * LETTERS + Lines.letterOf(y)]++;
            }
        }
    }

    private int mostMistaken() {
        int found = NONE;
        int most = 0;
        for (int k = 0; k < LETTERS * LETTERS; k++) {
            if (k / LETTERS != k % LETTERS && readCounts[k] > most) {
                most = readCounts[k];
                found = k;
            }
        }
        return found;
    }

    private int fewestPlaces() {
        findFirst();
        for (int size = 0; size <= PLACES; size++) {
            for (int set = 0; set <= ALL_PLACES; set++) {
                if (Integer.bitCount(set) == size) {
                    lookAtPairs(set);
                    if (pairings.isFirstOnlyBest()) {
                        return set;
                    }
                }
            }
        }
        return NONE;
    }

    private int fewestCars(Lines lines) {
        groups.begin(lines.size);
        for (int a = 0; a < lines.size; a++) {
            for (int b = 0; b < a; b++) {
                if (lines.mayBeOneCar(a, b)) {
                    groups.join(a, b);
                }
            }
        }
        return groups.fewest();
    }

    // ---- sheets

    /** What read() answers if one of the whole lines can not come; 0: all can. */
    private static int refusalOfLines(Sheet source, int f, int whole, Lines lines) {
        for (int i = 0; i < whole; i++) {
            if (!source.isLine(f + CELLS_OF_A_LINE * i)) {
                return -20 - i;
            }
            if (lines.size + i >= MOST_LINES) {
                return FULL;
            }
        }
        return 0;
    }

    /** The lines of one end. */
    private static final class Lines {
        int size;
        final int[] minutes = new int[MOST_LINES];
        final int[] colours = new int[MOST_LINES];
        final int[] signs = new int[MOST_LINES * PLACES];

        boolean has(int i) {
            return within(i, 0, size - 1);
        }

        /** The caller has seen that there is room, and puts the signs. */
        int append(int minute, int colour) {
            int number = size;
            minutes[number] = minute;
            colours[number] = colour;
            size++;
            return number;
        }

        void setPlate(int i, int plate) {
            int rest = plate;
            for (int place = PLACES - 1; place >= 0; place--) {
                signs[i * PLACES + place] = rest % SIGNS;
                rest /= SIGNS;
            }
        }

        int plateOf(int i) {
            int plate = 0;
            for (int place = 0; place < PLACES; place++) {
                plate = plate * SIGNS + signs[i * PLACES + place];
            }
            return plate;
        }

        void remove(int i) {
            int behind = size - i - 1;
            System.arraycopy(minutes, i + 1, minutes, i, behind);
            System.arraycopy(colours, i + 1, colours, i, behind);
            System.arraycopy(signs, (i + 1) * PLACES, signs, i * PLACES, behind * PLACES);
            size--;
        }

        void copyFrom(Lines other) {
            size = other.size;
            System.arraycopy(other.minutes, 0, minutes, 0, MOST_LINES);
            System.arraycopy(other.colours, 0, colours, 0, MOST_LINES);
            System.arraycopy(other.signs, 0, signs, 0, MOST_LINES * PLACES);
        }

        boolean mayBeOneCar(int a, int b) {
            if (areUnlikeColours(colours[a], colours[b])) {
                return false;
            }
            for (int place = 0; place < PLACES; place++) {
                int x = signs[a * PLACES + place];
                int y = signs[b * PLACES + place];
                boolean open = x == 0 || y == 0 || isDoubtful(x) || isDoubtful(y);
                if (!open && x != y) {
                    return false;
                }
            }
            return true;
        }

        static boolean areUnlikeColours(int a, int b) {
            return a != 0 && b != 0 && a != b;
        }

        static boolean isDoubtful(int sign) {
            return sign > LETTERS;
        }

        /** The letter of a sign that is read. */
        static int letterOf(int sign) {
            return (sign - 1) % LETTERS;
        }
    }

    /** What a road's text tells. */
    private static final class Road {
        private static final int[] AT_FIRST = {10, 60, 30, 1, 4, 2, 5, 12, 12, 0};
        final int[] rules = new int[RULES];
        final int[] mixes = new int[LETTERS * LETTERS];

        Road() {
            setAsAtFirst();
        }

        void setAsAtFirst() {
            System.arraycopy(AT_FIRST, 0, rules, 0, RULES);
            Arrays.fill(mixes, NONE);
        }

        void copyFrom(Road other) {
            System.arraycopy(other.rules, 0, rules, 0, RULES);
            System.arraycopy(other.mixes, 0, mixes, 0, LETTERS * LETTERS);
        }

        /** Points of a sign at IN that is another one at OUT; NONE: it may not be. */
        int pointsOf(int x, int y) {
            if (x == 0 || y == 0) {
                return rules[UNREAD];
            }
            boolean doubtful = Lines.isDoubtful(x) || Lines.isDoubtful(y);
            int a = Lines.letterOf(x);
            int b = Lines.letterOf(y);
            if (a == b) {
                return doubtful ? 1 : 0;
            }
            int mix = mixes[a * LETTERS + b];
            if (!doubtful) {
                return mix;
            }
            return mix == NONE ? rules[DOUBT] : Math.min(mix, rules[DOUBT]);
        }
    }

    /** All that an image keeps: the present itself is one too. */
    private static final class Scene {
        final Lines in = new Lines();
        final Lines out = new Lines();
        final Road road = new Road();
        final int[] told = new int[MOST_LINES];
        boolean kept;

        Scene() {
            Arrays.fill(told, NONE);
        }

        void copyFrom(Scene other) {
            in.copyFrom(other.in);
            out.copyFrom(other.out);
            road.copyFrom(other.road);
            System.arraycopy(other.told, 0, told, 0, MOST_LINES);
        }

        int tookBy(int i, int j, int clock) {
            return out.minutes[j] - in.minutes[i] - clock;
        }
    }

    /** A row of cells; they are held as ints, cut to their lane when they are put. */
    private static final class Sheet {
        static final int MOST_CELLS = 64;
        boolean there;
        int lane;
        int size;
        final int[] cells = new int[MOST_CELLS];

        void renew(int newLane, int n) {
            there = true;
            lane = newLane;
            size = n;
            Arrays.fill(cells, 0);
        }

        void put(int i, int v) {
            switch (lane) {
                case 0: cells[i] = (byte) v; break;
                case 1: cells[i] = (short) v; break;
                default: cells[i] = v; break;
            }
        }

        int faultAs(int asLane) {
            if (!there) {
                return NULL_FAULT;
            }
            return lane == asLane ? 0 : CAST_FAULT;
        }

        /** How many lines stand whole from cell f on. */
        int wholeLines(int f) {
            return within(f, 0, size) ? (size - f) / CELLS_OF_A_LINE : 0;
        }

        /** Whether a whole line's cells are as a line's must be. */
        boolean isLine(int from) {
            for (int place = 0; place < PLACES; place++) {
                if (!within(cells[from + 1 + place], 0, SIGNS - 1)) {
                    return false;
                }
            }
            return within(cells[from], 0, MOST_MINUTE) && within(cells[from + 1 + PLACES], 0, MOST_COLOUR);
        }

        void appendLine(int from, Lines lines) {
            int number = lines.append(cells[from], cells[from + 1 + PLACES]);
            System.arraycopy(cells, from + 1, lines.signs, number * PLACES, PLACES);
        }
    }

    /** The bytes of a road's text, and the reading of them, a token at a time. */
    private static final class Tape {
        private static final int MOST_BYTES = 320;
        private static final int NO_KIND = 0, NAME = 1, NUMBER = 2, SEMICOLON = 3, END_OF_TAPE = 4, ANY = 5;
        private static final int NO_TOKEN = 1, OUT_OF_PLACE = 2, OUT_OF_BOUNDS = 3, TOLD_ALREADY = 4;
        private static final int MINUTES = 0, MIXED = 1, JOINED_ITEM = 6, LATE = 7, EARLY = 8, ITEMS = 9;
        private static final int MOST_FIGURES = 3, MOST_MINUTES = 500, MOST_FOR_A_MINUTE = 9;

        final byte[] bytes = new byte[MOST_BYTES];
        int length;
        int faultKind;
        private int faultPlace;
        private int at;
        private int kind;
        private int from;
        private int number;
        private int toldItems;

        boolean append(long v) {
            if (length + 8 > MOST_BYTES) {
                return false;
            }
            for (int b = 0; b < 8; b++) {
                bytes[length + b] = (byte) (v >> (56 - 8 * b));
            }
            length += 8;
            return true;
        }

        /** What road() answers; the road is whole if that is 0 or more. */
        int tellRoad(Road road) {
            road.setAsAtFirst();
            at = 0;
            toldItems = 0;
            faultKind = 0;
            int items = 0;
            while (items < MOST_BYTES && takeToken(ANY) && kind != END_OF_TAPE) {
                if (!takeItem(road) || !takeToken(SEMICOLON)) {
                    break;
                }
                items++;
            }
            length = 0;
            return faultKind == 0 ? items : -10 - faultPlace;
        }

        private boolean fail(int fault) {
            faultKind = fault;
            faultPlace = from;
            return false;
        }

        /** Names and numbers are as long as may be; a number that is too long is no token at all. */
        private boolean takeToken(int wanted) {
            while (at < length && bytes[at] == ' ') {
                at++;
            }
            from = at;
            kind = at < length ? kindOf(bytes[at]) : END_OF_TAPE;
            number = 0;
            while (at < length && kindOf(bytes[at]) == kind && (kind != SEMICOLON || at == from)) {
                number = number * 10 + bytes[at] - '0';
                at++;
            }
            if (kind == NO_KIND || (kind == NUMBER && at - from > MOST_FIGURES)) {
                return fail(NO_TOKEN);
            }
            return wanted == ANY || kind == wanted || fail(OUT_OF_PLACE);
        }

        private static int kindOf(byte b) {
            if (b == ';') {
                return SEMICOLON;
            }
            if (b >= 'a' && b <= 'z') {
                return NAME;
            }
            return b >= '0' && b <= '9' ? NUMBER : NO_KIND;
        }

        private boolean takeNumber(int least, int most) {
            if (!takeToken(NUMBER)) {
                return false;
            }
            return within(number, least, most) || fail(OUT_OF_BOUNDS);
        }

        /** The letter's own number is the number then. */
        private boolean takeLetter() {
            if (!takeToken(NAME)) {
                return false;
            }
            number = bytes[from] - 'a';
            return (at - from == 1 && isLetter(number)) || fail(OUT_OF_BOUNDS);
        }

        private boolean takeItem(Road road) {
            int item = kind == NAME ? itemNamed() : NONE;
            if (item == NONE) {
                return fail(OUT_OF_PLACE);
            }
            if (item == MIXED) {
                return takeMixed(road);
            }
            // late and early are one thing, which can be told once
            int bit = 1 << Math.min(item, LATE);
            if ((toldItems & bit) != 0) {
                return fail(TOLD_ALREADY);
            }
            toldItems |= bit;
            return item == MINUTES ? takeMinutes(road.rules) : takePoints(road.rules, item);
        }

        private boolean takeMinutes(int[] rules) {
            if (!takeNumber(0, MOST_MINUTES)) {
                return false;
            }
            rules[LEAST] = number;
            if (!takeNumber(rules[LEAST], MOST_MINUTES)) {
                return false;
            }
            rules[MOST] = number;
            if (!takeNumber(rules[LEAST], rules[MOST])) {
                return false;
            }
            rules[USUAL] = number;
            if (!takeNumber(0, MOST_FOR_A_MINUTE)) {
                return false;
            }
            rules[MINUTE] = number;
            return true;
        }

        private boolean takeMixed(Road road) {
            if (!takeLetter()) {
                return false;
            }
            int x = number;
            if (!takeLetter()) {
                return false;
            }
            int y = number;
            if (x == y) {
                return fail(OUT_OF_BOUNDS);
            }
            if (road.mixes[x * LETTERS + y] != NONE) {
                return fail(TOLD_ALREADY);
            }
            if (!takeNumber(0, MOST_POINTS)) {
                return false;
            }
            road.mixes[x * LETTERS + y] = number;
            return true;
        }

        private boolean takePoints(int[] rules, int item) {
            int rule = item > JOINED_ITEM ? CLOCK : item - JOINED_ITEM + JOINED;
            if (!takeNumber(0, rule < OFF ? MOST_POINTS : 99)) {
                return false;
            }
            rules[rule] = item == EARLY ? -number : number;
            return true;
        }

        private int itemNamed() {
            for (int item = 0; item < ITEMS; item++) {
                if (isNamed(nameOf(item))) {
                    return item;
                }
            }
            return NONE;
        }

        private boolean isNamed(String name) {
            if (name.length() != at - from) {
                return false;
            }
            for (int k = 0; k < name.length(); k++) {
                if (name.charAt(k) != bytes[from + k]) {
                    return false;
                }
            }
            return true;
        }

        private static String nameOf(int item) {
            switch (item) {
                case MINUTES: return "minutes";
                case MIXED: return "mixed";
                case 2: return "doubt";
                case 3: return "unread";
                case 4: return "colour";
                case 5: return "off";
                case JOINED_ITEM: return "joined";
                case LATE: return "late";
                default: return "early";
            }
        }
    }

    /** What each pair of a line of IN and one of OUT costs. */
    private static final class Pairs {
        int ins;
        int outs;
        int totalOfNone;
        private int savedByPair;
        private final int[] platePoints = new int[MOST_LINES * MOST_LINES];
        private final int[] costs = new int[MOST_LINES * MOST_LINES];

        /** Times stay apart from plates, so that many clocks can be tried on the same plates. */
        void comparePlates(Scene scene, int places) {
            ins = scene.in.size;
            outs = scene.out.size;
            int off = scene.road.rules[OFF];
            int joined = scene.road.rules[JOINED];
            totalOfNone = off * ins + joined * outs;
            savedByPair = off + joined;
            for (int i = 0; i < ins; i++) {
                for (int j = 0; j < outs; j++) {
                    platePoints[i * MOST_LINES + j] = pointsBut(scene, i, j, places);
                }
            }
        }

        void addTimes(Scene scene, int clock) {
            for (int i = 0; i < ins; i++) {
                for (int j = 0; j < outs; j++) {
                    int points = platePoints[i * MOST_LINES + j];
                    int time = scene.tookBy(i, j, clock);
                    costs[i * MOST_LINES + j] = costBy(scene.road.rules, points, time);
                }
            }
        }

        private static int costBy(int[] rules, int points, int time) {
            if (points == NONE || !within(time, rules[LEAST], rules[MOST])) {
                return NONE;
            }
            return points + Math.abs(time - rules[USUAL]) * rules[MINUTE];
        }

        /** All points but those for minutes; NONE: some place may not be. */
        private static int pointsBut(Scene scene, int i, int j, int places) {
            boolean unlike = Lines.areUnlikeColours(scene.in.colours[i], scene.out.colours[j]);
            int sum = unlike ? scene.road.rules[COLOUR] : 0;
            for (int place = 0; place < PLACES; place++) {
                int x = scene.in.signs[i * PLACES + place];
                int y = scene.out.signs[j * PLACES + place];
                int points = (places >> place & 1) == 0 ? 0 : scene.road.pointsOf(x, y);
                if (points == NONE) {
                    return NONE;
                }
                sum += points;
            }
            return sum;
        }

        int costOf(int i, int j) {
            return costs[i * MOST_LINES + j];
        }

        boolean mayBe(int i, int j) {
            return costs[i * MOST_LINES + j] != NONE;
        }

        /** By how much a pair that may be changes the total of its two lines left alone. */
        int gainOf(int i, int j) {
            return costs[i * MOST_LINES + j] - savedByPair;
        }

        boolean mayBeNone(int end, int x) {
            int others = end == IN ? outs : ins;
            for (int y = 0; y < others; y++) {
                if (end == IN ? mayBe(x, y) : mayBe(y, x)) {
                    return false;
                }
            }
            return true;
        }
    }

    /**
     * Rows are seated at columns, each at one of its own, so that the sum of weights is the least
     * (the Hungarian way, with prices of rows and columns). Numbers from 1 on; 0 stands for nobody.
     */
    private static final class Matcher {
        /** Beyond all sums of weights, and still far from where a long runs over. */
        static final long FAR = 1L << 60;
        private int columns;
        private int seen;
        private final long[] weights = new long[MOST_LINES * MOST_LINES];
        private final long[] rowPrices = new long[MOST_LINES + 1];
        private final long[] columnPrices = new long[MOST_LINES + 1];
        private final long[] reach = new long[MOST_LINES + 1];
        private final int[] rowAt = new int[MOST_LINES + 1];
        private final int[] columnBefore = new int[MOST_LINES + 1];

        void clear() {
            Arrays.fill(weights, 0);
        }

        /** A pair of more than 0 is never better than none: it weighs as none does. */
        void setWeight(int i, int j, long weight) {
            weights[i * MOST_LINES + j] = Math.min(0, weight);
        }

        /** The least sum; columns of no line stand behind, so that each row has a seat. */
        long settle(int ins, int outs) {
            columns = Math.max(ins, outs);
            Arrays.fill(rowPrices, 0);
            Arrays.fill(columnPrices, 0);
            Arrays.fill(rowAt, 0);
            for (int row = 1; row <= ins; row++) {
                seat(row);
            }
            long sum = 0;
            for (int column = 1; column <= columns; column++) {
                int row = rowAt[column];
                sum += row == 0 ? 0 : weights[(row - 1) * MOST_LINES + column - 1];
            }
            return sum;
        }

        /** Whether a pair is taken that is better than none. */
        boolean isTaken(int i, int j) {
            return rowAt[j + 1] == i + 1 && weights[i * MOST_LINES + j] < 0;
        }

        private void seat(int row) {
            Arrays.fill(reach, FAR);
            seen = 0;
            rowAt[0] = row;
            int column = 0;
            for (int step = 0; step <= columns && rowAt[column] != 0; step++) {
                seen |= 1 << column;
                reachFrom(column);
                int next = nearest();
                shiftPrices(reach[next]);
                column = next;
            }
            for (int step = 0; step <= columns && column != 0; step++) {
                rowAt[column] = rowAt[columnBefore[column]];
                column = columnBefore[column];
            }
        }

        private void reachFrom(int column) {
            int row = rowAt[column];
            for (int c = 1; c <= columns; c++) {
                long weight = weights[(row - 1) * MOST_LINES + c - 1];
                long slack = weight - rowPrices[row] - columnPrices[c];
                if ((seen >> c & 1) == 0 && slack < reach[c]) {
                    reach[c] = slack;
                    columnBefore[c] = column;
                }
            }
        }

        private int nearest() {
            int found = 0;
            for (int c = 1; c <= columns; c++) {
                if ((seen >> c & 1) == 0 && (found == 0 || reach[c] < reach[found])) {
                    found = c;
                }
            }
            return found;
        }

        private void shiftPrices(long by) {
            for (int c = 0; c <= columns; c++) {
                if ((seen >> c & 1) == 1) {
                    rowPrices[rowAt[c]] += by;
                    columnPrices[c] -= by;
                } else {
                    reach[c] -= by;
                }
            }
        }
    }

    /**
     * Questions about the best pairings. Each is one settling: gains are taken so many times that
     * the small leanings put beside them choose among the best alone.
     */
    private static final class Pairings {
        private static final int LEANING_ONE = 2, LEANING_ALL = 32;
        private static final int CHOICES = MOST_LINES + 1;
        /** CHOICES to the power MOST_LINES: more than all orders of choices together. */
        private static final long ALL_CHOICES = 25937424601L;

        private final Pairs pairs;
        private final Matcher matcher = new Matcher();
        final int[] partners = new int[MOST_LINES];

        Pairings(Pairs pairs) {
            this.pairs = pairs;
            Arrays.fill(partners, NONE);
        }

        private void weighAll(int scale, int lean) {
            matcher.clear();
            for (int i = 0; i < pairs.ins; i++) {
                for (int j = 0; j < pairs.outs; j++) {
                    weighPair(i, j, scale, lean);
                }
            }
        }

        private void weighPair(int i, int j, int scale, int lean) {
            if (pairs.mayBe(i, j)) {
                matcher.setWeight(i, j, (long) scale * pairs.gainOf(i, j) + lean);
            }
        }

        private long settle() {
            return matcher.settle(pairs.ins, pairs.outs);
        }

        private long leastGain() {
            weighAll(1, 0);
            return settle();
        }

        long leastTotal() {
            weighAll(1, 0);
            return pairs.totalOfNone + settle();
        }

        /** Of a pair that may be. */
        long leastWith(int i, int j) {
            weighAll(1, 0);
            for (int x = 0; x < MOST_LINES; x++) {
                matcher.setWeight(i, x, 0);
                matcher.setWeight(x, j, 0);
            }
            return pairs.totalOfNone + pairs.gainOf(i, j) + settle();
        }

        long leastWithout(int i, int j) {
            weighAll(1, 0);
            matcher.setWeight(i, j, 0);
            return pairs.totalOfNone + settle();
        }

        boolean isInAllBest(int i, int j) {
            return leastWithout(i, j) > leastTotal();
        }

        /** Whether a line has none in all best pairings, or in some. */
        boolean isAlone(int end, int x, boolean inAll) {
            int lean = inAll ? -1 : 1;
            long least = leastGain();
            weighAll(LEANING_ONE, 0);
            int others = end == IN ? pairs.outs : pairs.ins;
            for (int y = 0; y < others; y++) {
                weighPair(end == IN ? x : y, end == IN ? y : x, LEANING_ONE, lean);
            }
            return settle() == LEANING_ONE * least;
        }

        int fewestInBest() {
            long least = leastGain();
            weighAll(LEANING_ALL, 1);
            return (int) (settle() - LEANING_ALL * least);
        }

        int mostInBest() {
            long least = leastGain();
            weighAll(LEANING_ALL, -1);
            return (int) (LEANING_ALL * least - settle());
        }

        /** The first of the best: a lower line of OUT is better than a higher one, for line 0 above all. */
        void findFirst() {
            matcher.clear();
            long weightOfLine = ALL_CHOICES;
            for (int i = 0; i < pairs.ins; i++) {
                weightOfLine /= CHOICES;
                for (int j = 0; j < pairs.outs; j++) {
                    if (pairs.mayBe(i, j)) {
                        long order = (MOST_LINES - j) * weightOfLine;
                        matcher.setWeight(i, j, ALL_CHOICES * pairs.gainOf(i, j) - order);
                    }
                }
            }
            settle();
            for (int i = 0; i < MOST_LINES; i++) {
                partners[i] = i < pairs.ins ? partnerTaken(i) : NONE;
            }
        }

        private int partnerTaken(int i) {
            for (int j = 0; j < pairs.outs; j++) {
                if (matcher.isTaken(i, j)) {
                    return j;
                }
            }
            return NONE;
        }

        int countFirst() {
            int found = 0;
            for (int i = 0; i < MOST_LINES; i++) {
                found += partners[i] == NONE ? 0 : 1;
            }
            return found;
        }

        /** Whether the first, found by other costs, is the one and only best by those of now. */
        boolean isFirstOnlyBest() {
            long gain = 0;
            // every pairing of the same gain but the first itself comes out below it
            weighAll(LEANING_ALL, -1);
            for (int i = 0; i < pairs.ins; i++) {
                if (partners[i] != NONE) {
                    gain += pairs.gainOf(i, partners[i]);
                    weighPair(i, partners[i], LEANING_ALL, 1);
                }
            }
            return settle() == LEANING_ALL * gain + countFirst();
        }
    }

    /** Counts pairings: a row over all sets of lines of OUT that are taken, line of IN by line of IN. */
    private static final class Counter {
        /** Above every gain there is. */
        private static final int ANY_GAIN = 100000;
        private final int[] numbers = new int[LINE_SETS];
        private final int[] gains = new int[LINE_SETS];

        /** All pairings of the lines but the two that are left out (NONE: none is). */
        long countAll(Pairs pairs, int withoutIn, int withoutOut) {
            spreadAll(pairs, withoutIn, withoutOut);
            long sum = 0;
            for (int set = 0; set < 1 << pairs.outs; set++) {
                sum += numbers[set];
            }
            return sum;
        }

        long countOfSize(Pairs pairs, int n) {
            long sum = 0;
            for (int set = 0; set < 1 << pairs.outs; set++) {
                sum += Integer.bitCount(set) == n ? numbers[set] : 0;
            }
            return sum;
        }

        void spreadAll(Pairs pairs, int withoutIn, int withoutOut) {
            int closed = withoutOut == NONE ? 0 : 1 << withoutOut;
            Arrays.fill(numbers, 0);
            numbers[0] = 1;
            for (int i = 0; i < pairs.ins; i++) {
                if (i != withoutIn) {
                    spreadLine(openTo(pairs, i, ANY_GAIN) & ~closed, pairs.outs);
                }
            }
        }

        /** Lines of OUT that a line of IN may have at no more than a gain, as bits. */
        private static int openTo(Pairs pairs, int i, int mostGain) {
            int open = 0;
            for (int j = 0; j < pairs.outs; j++) {
                if (pairs.mayBe(i, j) && pairs.gainOf(i, j) <= mostGain) {
                    open |= 1 << j;
                }
            }
            return open;
        }

        /** From the fullest set down: what a line adds is not taken for what was there before. */
        private void spreadLine(int open, int outs) {
            for (int set = (1 << outs) - 1; set >= 0; set--) {
                int free = numbers[set] == 0 ? 0 : open & ~set;
                for (int j = 0; j < outs && free >> j != 0; j++) {
                    if ((free >> j & 1) == 1) {
                        numbers[set | 1 << j] += numbers[set];
                    }
                }
            }
        }

        long countBest(Pairs pairs) {
            Arrays.fill(numbers, 0);
            numbers[0] = 1;
            gains[0] = 0;
            for (int i = 0; i < pairs.ins; i++) {
                spreadBest(pairs, i);
            }
            int least = 0;
            long sum = 0;
            for (int set = 0; set < 1 << pairs.outs; set++) {
                if (numbers[set] != 0 && gains[set] < least) {
                    least = gains[set];
                    sum = 0;
                }
                sum += numbers[set] != 0 && gains[set] == least ? numbers[set] : 0;
            }
            return sum;
        }

        /** As spreadLine, with the least gain of each set; a pair of a gain above 0 is in no best pairing. */
        private void spreadBest(Pairs pairs, int i) {
            int open = openTo(pairs, i, 0);
            for (int set = (1 << pairs.outs) - 1; set >= 0; set--) {
                int free = numbers[set] == 0 ? 0 : open & ~set;
                for (int j = 0; j < pairs.outs && free >> j != 0; j++) {
                    if ((free >> j & 1) == 1) {
                        addBest(set | 1 << j, gains[set] + pairs.gainOf(i, j), numbers[set]);
                    }
                }
            }
        }

        private void addBest(int set, int gain, int number) {
            if (numbers[set] == 0 || gain < gains[set]) {
                gains[set] = gain;
                numbers[set] = 0;
            }
            numbers[set] += gain == gains[set] ? number : 0;
        }
    }

    /** Sets of members any two of which go together. */
    private static final class Groups {
        private int size;
        private final int[] mates = new int[MOST_LINES];
        private final boolean[] together = new boolean[LINE_SETS];
        private final int[] parts = new int[LINE_SETS];

        void begin(int members) {
            size = members;
            Arrays.fill(mates, 0);
        }

        /** Member a goes together with member b, a lower one. */
        void join(int a, int b) {
            mates[a] |= 1 << b;
        }

        private void markTogether() {
            together[0] = true;
            for (int top = 0; top < size; top++) {
                for (int rest = 0; rest < 1 << top; rest++) {
                    together[1 << top | rest] = together[rest] && (mates[top] & rest) == rest;
                }
            }
        }

        int largest() {
            markTogether();
            int most = 0;
            for (int set = 0; set < 1 << size; set++) {
                if (together[set]) {
                    most = Math.max(most, Integer.bitCount(set));
                }
            }
            return most;
        }

        /** The fewest such sets that have all members. */
        int fewest() {
            markTogether();
            parts[0] = 0;
            for (int top = 0; top < size; top++) {
                for (int rest = 0; rest < 1 << top; rest++) {
                    parts[1 << top | rest] = fewestParts(1 << top, rest);
                }
            }
            return parts[(1 << size) - 1];
        }

        /** The top member's own set is tried with every part of the rest. */
        private int fewestParts(int top, int rest) {
            int fewest = 1 + parts[rest];
            for (int with = rest; with > 0; with = (with - 1) & rest) {
                if (together[top | with]) {
                    fewest = Math.min(fewest, 1 + parts[rest ^ with]);
                }
            }
            return fewest;
        }
    }
}
