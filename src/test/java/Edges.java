import java.util.ArrayList;
import java.util.List;
import java.util.function.Supplier;

/** Tests of single sentences: each is begun by its promise and the document's own words, and what it asks is told with them. */
final class Edges {
    /** The sections that stand ahead of promise 1. */
    static final int WHAT_IT_IS = -1, TERMS = 0;
    static final int BAD = -1, STATE = -2, FULL = -3, NONE = -4;

    interface Ask {
        long of(HalfNumber x);
    }

    interface AskBy {
        long of(HalfNumber x, int v);
    }

    /** A piece of the document that a test has been made for. */
    record Quote(int promise, String words) { }

    private final List<Quote> quotes = new ArrayList<>();
    private int asked = 0;
    private int askedHere = 0;
    private int wrong = 0;

    /** A test of its own begins. */
    void sentence(int promise, String words) {
        noteIfNothingAsked();
        quotes.add(new Quote(promise, words));
        askedHere = 0;
    }

    void is(String what, long got, long want) {
        asked++;
        askedHere++;
        if (got != want) note(what + " answered " + got + ", due is " + want);
    }

    /** A call is refused, and all is as in an object that was never asked. */
    void refused(String what, Supplier<HalfNumber> made, Ask call, long want) {
        HalfNumber x = made.get();
        is(what, call.of(x), want);
        asked++;
        String change = Made.firstChange(x, made.get());
        if (!change.isEmpty()) note(what + " was refused, but changed " + change);
    }

    void refusedBy(String what, Supplier<HalfNumber> made, int[] numbers, AskBy call, long want) {
        for (int v : numbers) refused(what + " of " + v, made, x -> call.of(x, v), want);
    }

    /** The numbers just outside of bounds, and the ones farthest away. */
    static int[] outside(int least, int most) {
        return new int[] {least - 1, most + 1, Integer.MIN_VALUE, Integer.MAX_VALUE};
    }

    void close() {
        noteIfNothingAsked();
        for (String gap : Document.gaps(quotes)) {
            wrong++;
            System.out.println("BoundaryTest: " + gap);
        }
        System.out.println("BoundaryTest: " + quotes.size() + " sentences, " + asked + " answers looked at, " + wrong + " are not as due");
        if (wrong != 0) System.exit(1);
    }

    private void noteIfNothingAsked() {
        if (!quotes.isEmpty() && askedHere == 0) note("nothing was asked");
    }

    private void note(String what) {
        wrong++;
        Quote here = quotes.get(quotes.size() - 1);
        System.out.println("BoundaryTest: " + Document.nameOf(here.promise()) + ", \"" + here.words() + "\": " + what);
    }
}
