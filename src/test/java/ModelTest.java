import java.lang.reflect.Method;
import java.util.ArrayList;
import java.util.Arrays;
import java.util.List;
import java.util.Random;

/** Runs of calls by a fixed seed, each answer of HalfNumber held against that of the plain Model. */
public final class ModelTest {
    private static final int RUNS = 1200;
    private static final int CALLS = 512;
    private static final String[] ITEMS = {"minutes", "mixed", "doubt", "unread", "colour", "off", "joined", "late", "early"};

    private static int wrong = 0;
    private static long asked = 0;
    private final Random random;
    private final HalfNumber real = new HalfNumber();
    private final Model model = new Model();
    private final List<String> told = new ArrayList<>();
    private final int lineLimit;
    private final boolean dense;
    private int calls = 0;

    private ModelTest(long seed) {
        random = new Random(seed);
        // most runs are small: all their pairings are written down at every question
        lineLimit = seed % 10 == 0 ? 5 : seed % 3 == 0 ? 4 : 3;
        // in half of them nearly every pair may be, and many cost the same
        dense = seed % 2 == 0;
    }

    public static void main(String[] args) throws Exception {
        for (int seed = 0; seed < RUNS && wrong == 0; seed++) {
            new ModelTest(seed).run(seed);
        }
        System.out.println(asked + " calls asked, " + wrong + " answers are not as the model's");
        if (wrong != 0) System.exit(1);
    }

    private static Method methodNamed(Class<?> of, String name) {
        for (Method m : of.getDeclaredMethods()) {
            if (m.getName().equals(name) && (of != Model.class || !java.lang.reflect.Modifier.isStatic(m.getModifiers()))
                    && isCall(m)) {
                return m;
            }
        }
        throw new IllegalStateException(name);
    }

    private static boolean isCall(Method m) {
        for (Method face : HalfNumber.class.getDeclaredMethods()) {
            if (java.lang.reflect.Modifier.isPublic(face.getModifiers()) && face.getName().equals(m.getName())) {
                return Arrays.equals(face.getParameterTypes(), m.getParameterTypes());
            }
        }
        return false;
    }

    private static final java.util.Map<String, Method[]> METHODS = new java.util.HashMap<>();

    private long ask(String name, Object... args) throws Exception {
        if (calls >= CALLS || wrong > 0) return 0;
        calls++;
        asked++;
        if (!METHODS.containsKey(name)) {
            METHODS.put(name, new Method[] {methodNamed(HalfNumber.class, name), methodNamed(Model.class, name)});
        }
        Method[] both = METHODS.get(name);
        both[1].setAccessible(true);
        String call = name + Arrays.toString(args);
        told.add(call);
        long got;
        try {
            got = ((Number) both[0].invoke(real, args)).longValue();
        } catch (java.lang.reflect.InvocationTargetException e) {
            wrong++;
            System.out.println("thrown by " + call + ": " + e.getCause() + "\n" + told);
            return 0;
        }
        long want = ((Number) both[1].invoke(model, args)).longValue();
        told.set(told.size() - 1, call + " = " + got);
        if (got != want) {
            wrong++;
            System.out.println(call + " answered " + got + ", the model " + want + "\n" + told);
        }
        return want;
    }

    private void run(long seed) throws Exception {
        if (dense) feedAndTell(new String[] {"", "minutes 0 99 30 0;", "minutes 0 90 30 1; mixed a b 1; off 3; joined 2;", "mixed b a 0; unread 0; colour 0;"}[upTo(3)]);
        else if (random.nextInt(3) > 0) tellRoad();
        if (dense || random.nextInt(4) > 0) fill();
        for (int k = 0; k < 100000 && calls < CALLS && wrong == 0; k++) {
            step();
        }
    }

    private int upTo(int n) {
        return random.nextInt(n + 1);
    }

    /** Mostly a number in the bounds, at times one beside them or far off. */
    private int near(int least, int most) {
        int r = random.nextInt(40);
        if (r == 0) return least - 1;
        if (r == 1) return most + 1;
        if (r == 2) return new int[] {Integer.MIN_VALUE, Integer.MAX_VALUE, -1000000, 1000000, -4}[upTo(4)];
        return least + random.nextInt(most - least + 1);
    }

    private int lineOf(int end) {
        int size = end == 1 ? model.out.size() : model.in.size();
        return near(0, Math.max(0, size - 1));
    }

    private void step() throws Exception {
        int r = random.nextInt(100);
        if (dense ? r < 1 : r < 3) tellRoad();
        else if (r < 6) sheets();
        else if (r < 10) line();
        else if (r < 12) { int e = near(0, 1); ask("drop", e, lineOf(e)); }
        else if (dense && r < 16) question();
        else if (r < 17) { int e = near(0, 1); ask("sign", e, lineOf(e), near(0, 3), someSign()); }
        else if (r < 19) ask("setClock", random.nextInt(3) == 0 ? near(-99, 99) : near(-5, 5));
        else if (r < 21) images();
        else if (r < 25) ask("tell", near(0, 9), random.nextInt(4) == 0 ? -4 : random.nextInt(3) == 0 ? near(0, 9) : near(0, 2));
        else if (r < 27) ask("learn", near(0, 50));
        else if (r < 29) ask("adopt");
        else question();
    }

    private void question() throws Exception {
        int i = lineOf(0), j = lineOf(1), e = near(0, 1);
        switch (random.nextInt(29)) {
            case 0: ask("took", i, j); break;
            case 1: ask("cost", i, j); break;
            case 2: ask("why", i, j); break;
            case 3: ask("best", near(0, 3)); break;
            case 4: ask("first", i); break;
            case 5: ask("sure", i, j); break;
            case 6: ask("share", i, j, near(0, 1)); break;
            case 7: ask("ifMust", i, j, random.nextBoolean()); break;
            case 8: ask("alone", e, near(0, 2)); break;
            case 9: ask("many", near(0, 1)); break;
            case 10: ask("ways", near(0, 10)); break;
            case 11: ask("judge", near(0, 3)); break;
            case 12: ask("prices", near(0, 3), near(0, 2), random.nextBoolean() ? 0 : near(0, 6), near(0, 4)); break;
            case 13: ask("times", near(0, 6)); break;
            case 14: if (random.nextInt(3) == 0) ask("clock", near(0, 1)); break;
            case 15: ask("passed", near(0, 2)); break;
            case 16: ask("reads", near(0, 7), near(0, 7)); break;
            case 17: ask("blame", near(0, 2)); break;
            case 18: ask("enough", near(0, 1)); break;
            case 19: ask("round", e, lineOf(e), lineOf(e)); break;
            case 20: ask("cars", e, near(0, 1)); break;
            case 21: ask("torn"); break;
            case 22: ask("count", near(0, 5)); break;
            case 23: ask("of", e, lineOf(e), random.nextBoolean() ? near(0, 2) : near(10, 13)); break;
            case 24: ask("rule", near(0, 9)); break;
            case 25: ask("mixed", near(0, 7), near(0, 7)); break;
            case 26: ask("fault"); break;
            case 27: ask("best", 1); break;
            default: ask("sure", i, j); break;
        }
    }

    private void images() throws Exception {
        int k = near(0, 1);
        if (random.nextBoolean()) ask("keep", k);
        else ask("back", k);
    }

    private int someSign() {
        return random.nextInt(3) == 0 ? near(0, 16) : new int[] {0, 1, 2, 3, 9, 10, 2, 1}[upTo(7)];
    }

    private int somePlate() {
        if (dense && upTo(9) > 0) return new int[] {0, 5220, 5220, 5220 + 8, 5221, 5220 + 289 * 9, 5220 + 17 * 8}[upTo(6)];
        int plate = 0;
        for (int p = 0; p < 4; p++) plate = plate * 17 + new int[] {1, 1, 1, 2, 2, 3, 0, 9, 10, upTo(16)}[upTo(9)];
        return plate;
    }

    private void line() throws Exception {
        int end = near(0, 1);
        List<Model.Line> lines = model.at(end);
        if (lines != null && lines.size() >= lineLimit) {
            ask("line", end, near(0, 999), -1 - upTo(9), near(0, 6));
            ask("drop", end, upTo(lines.size() - 1));
            return;
        }
        int minute = (end == 1 ? 30 : 0) + upTo(dense ? 4 : 12);
        ask("line", end, random.nextInt(8) == 0 ? near(0, 999) : minute, random.nextInt(20) == 0 ? near(0, 83520) : somePlate(), near(0, 6) > 3 ? 0 : upTo(3));
    }

    private void fill() throws Exception {
        for (int end = 0; end < 2; end++) {
            int n = dense ? lineLimit - upTo(1) : upTo(lineLimit);
            for (int k = 0; k < n && model.at(end).size() < lineLimit; k++) {
                ask("line", end, (end == 1 ? 30 : 0) + upTo(8), random.nextBoolean() ? 5220 : somePlate(), random.nextInt(3) == 0 ? upTo(6) : 0);
            }
        }
    }

    // ---- sheets

    private void sheets() throws Exception {
        int k = near(0, 3), lane = near(0, 2);
        switch (random.nextInt(5)) {
            case 0: ask("sheet", k, lane, near(0, 64)); break;
            case 1: ask("lay", k, near(0, 30), random.nextInt(5) == 0 ? near(-2000, 2000) : random.nextInt()); break;
            case 2: readLines(k, lane); break;
            case 3: pricesSheet(); break;
            default: ask("read", k, lane, near(0, 20), near(0, 10) % 3, near(0, 1)); trim(); break;
        }
        ask("torn");
    }

    private void trim() throws Exception {
        for (int end = 0; end < 2; end++) {
            while (model.at(end).size() > lineLimit && calls < CALLS && wrong == 0) ask("drop", end, 0);
        }
    }

    private void readLines(int k, int lane) throws Exception {
        int n = upTo(3);
        ask("sheet", k, lane, random.nextInt(4) == 0 ? upTo(20) : 6 * n + upTo(3));
        for (int c = 0; c < 6 * n; c++) {
            int kind = c % 6;
            int v = kind == 0 ? near(0, lane == 0 ? 127 : 999) : kind == 5 ? upTo(6) : someSign();
            ask("lay", k, c, v);
        }
        int f = random.nextInt(6) == 0 ? near(0, 7) : 0;
        ask("read", k, random.nextInt(10) == 0 ? near(0, 2) : lane, f, random.nextInt(3) == 0 ? near(0, 10) : n, near(0, 1));
        ask("torn");
        ask("count", 0);
        ask("count", 1);
        trim();
    }

    private void pricesSheet() throws Exception {
        int k = upTo(3), lane = upTo(2), n = model.in.size() + model.out.size();
        ask("sheet", k, lane, Math.max(0, n - random.nextInt(2) + upTo(3)));
        int high = random.nextBoolean() ? 6 : 13;
        for (int c = 0; c < n; c++) ask("lay", k, c, random.nextInt(60) == 0 ? near(-999, 999) : upTo(high + 6) - 6);
        for (int what = 0; what <= 4; what++) ask("prices", k, lane, 0, what);
        ask("prices", k, random.nextInt(3), near(-1, 3), near(0, 4));
    }

    // ---- roads

    private void tellRoad() throws Exception {
        StringBuilder text = new StringBuilder();
        int items = upTo(8);
        for (int k = 0; k < items; k++) addItem(text);
        if (random.nextInt(2) == 0) spoil(text);
        if (text.length() > 320) text.setLength(upTo(320));
        feedAndTell(text.toString());
    }

    private void feedAndTell(String text) throws Exception {
        feedText(text);
        ask("count", 4);
        ask("road");
        ask("fault");
        ask("count", 4);
        for (int what = 0; what <= 9; what++) if (random.nextInt(4) == 0) ask("rule", what);
    }

    private void feedText(String text) throws Exception {
        for (int k = 0; k < text.length(); k += 8) {
            long v = 0;
            for (int b = 0; b < 8; b++) v = v << 8 | (k + b < text.length() ? text.charAt(k + b) : 32);
            ask("feed", v);
        }
        ask("end", text.length());
        if (random.nextInt(20) == 0) ask("end", near(0, Math.max(0, model.tape.length())));
    }

    private void blanks(StringBuilder text, int least) {
        int n = random.nextInt(6) == 0 ? least + upTo(2) : least;
        for (int k = 0; k < n; k++) text.append(' ');
    }

    private void number(StringBuilder text, int most) {
        blanks(text, 1);
        int v = random.nextInt(60) == 0 ? most + upTo(2) : upTo(most);
        text.append(random.nextInt(12) == 0 && v < 100 ? "0" + v : "" + v);
    }

    private void addItem(StringBuilder text) {
        String name = ITEMS[random.nextInt(3) == 0 ? 1 : upTo(8)];
        blanks(text, 0);
        text.append(name);
        switch (name) {
            case "minutes":
                int least = upTo(40), most = least + upTo(60), usual = least + upTo(most - least);
                number(text, least == 0 ? 1 : 0);
                text.append(' ').append(random.nextInt(30) == 0 ? 501 : most).append(' ').append(random.nextInt(30) == 0 ? 501 : usual);
                number(text, random.nextBoolean() ? 2 : 9);
                break;
            case "mixed":
                text.append(' ').append("abcabcabcdefghi".charAt(upTo(14)));
                text.append(' ').append("abcabcabcdefghi".charAt(upTo(14)));
                number(text, random.nextBoolean() ? 3 : 50);
                break;
            case "off": case "joined":
                number(text, random.nextBoolean() ? 20 : 99);
                break;
            case "late": case "early":
                number(text, random.nextBoolean() ? 3 : 99);
                break;
            default:
                number(text, random.nextBoolean() ? 6 : 50);
                break;
        }
        blanks(text, 0);
        text.append(';');
    }

    private void spoil(StringBuilder text) {
        if (text.length() == 0) return;
        int at = random.nextInt(text.length());
        switch (random.nextInt(4)) {
            case 0: text.deleteCharAt(at); break;
            case 1: text.insert(at, " ;09azh\u00e9\u0080".charAt(upTo(8))); break;
            case 2: text.setCharAt(at, (char) upTo(255)); break;
            default: text.setLength(at); break;
        }
    }
}
