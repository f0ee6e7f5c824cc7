/** What tests share: counting answers that are not the ones due, and telling a road by its text. */
final class Due {
    private final String name;
    private int asked = 0;
    private int wrong = 0;

    Due(String name) {
        this.name = name;
    }

    void is(String what, long got, long want) {
        asked++;
        if (got != want) {
            wrong++;
            System.out.println(name + ": " + what + " answered " + got + ", due is " + want);
        }
    }

    void holds(String what, boolean so) {
        is(what, so ? 1 : 0, 1);
    }

    void close() {
        System.out.println(name + ": " + asked + " answers looked at, " + wrong + " are not as due");
        if (wrong != 0) {
            System.exit(1);
        }
    }

    /** The text goes onto the tape, alone. */
    static void feed(HalfNumber x, String text) {
        x.end(0);
        for (int k = 0; k < text.length(); k += 8) {
            long v = 0;
            for (int b = 0; b < 8; b++) {
                v = v << 8 | (k + b < text.length() ? text.charAt(k + b) & 255 : 0);
            }
            x.feed(v);
        }
        x.end(text.length());
    }

    static int road(HalfNumber x, String text) {
        feed(x, text);
        return x.road();
    }

    /** A plate told by signs: . not read, a to h read, A to H read with doubt. */
    static int plate(String signs) {
        int plate = 0;
        for (char c : signs.toCharArray()) {
            plate = plate * 17 + (c == '.' ? 0 : c >= 'a' ? c - 'a' + 1 : c - 'A' + 9);
        }
        return plate;
    }
}
