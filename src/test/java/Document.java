import java.io.IOException;
import java.nio.file.Files;
import java.nio.file.Path;
import java.util.ArrayList;
import java.util.BitSet;
import java.util.List;
import java.util.TreeMap;

/** The document's own words, so that a test can quote nothing else and no sentence is left without a test. */
final class Document {
    private static final Path FILE = Path.of("../shared/DOC.md");

    /** Of what stands elsewhere nothing is asked. */
    private static final int ELSEWHERE = -2;

    private Document() { }

    static String nameOf(int promise) {
        return promise == Edges.WHAT_IT_IS ? "What it is" : promise == Edges.TERMS ? "Terms" : "promise " + promise;
    }

    /** Quotes that do not stand where they say, and words that no quote has. */
    static List<String> gaps(List<Edges.Quote> quotes) {
        List<String> gaps = new ArrayList<>();
        if (!Files.exists(FILE)) {
            System.out.println("BoundaryTest: there is no " + FILE + ": quotes are not compared with it");
            return gaps;
        }
        TreeMap<Integer, String> sections = sections();
        TreeMap<Integer, BitSet> quoted = new TreeMap<>();
        for (int promise : sections.keySet()) quoted.put(promise, new BitSet());
        for (Edges.Quote q : quotes) {
            int at = sections.getOrDefault(q.promise(), "").indexOf(q.words());
            if (at < 0) gaps.add(nameOf(q.promise()) + " has no words \"" + q.words() + "\"");
            else quoted.get(q.promise()).set(at, at + q.words().length());
        }
        for (int promise : sections.tailMap(Edges.TERMS).keySet()) addBare(gaps, promise, sections.get(promise), quoted.get(promise));
        return gaps;
    }

    private static void addBare(List<String> gaps, int promise, String text, BitSet quoted) {
        for (int at = quoted.nextClearBit(0); at < text.length(); at = quoted.nextClearBit(at)) {
            int next = quoted.nextSetBit(at);
            int to = next < 0 ? text.length() : next;
            String bare = text.substring(at, to);
            if (bare.chars().anyMatch(Character::isLetterOrDigit)) gaps.add(nameOf(promise) + ": no test has the words \"" + bare.strip() + "\"");
            at = to;
        }
    }

    /** The texts of what it is, of Terms and of each promise, every run of blanks and ends of lines as one blank. */
    private static TreeMap<Integer, String> sections() {
        TreeMap<Integer, String> sections = new TreeMap<>();
        int promise = ELSEWHERE;
        for (String line : lines()) {
            if (line.startsWith("## ")) promise = promiseOf(line);
            else if (promise != ELSEWHERE && isText(line)) sections.merge(promise, line, (a, b) -> a + " " + b);
        }
        sections.replaceAll((number, text) -> (number <= Edges.TERMS ? text : text.replaceFirst("^\\s*`[^`]*`:", "")).replaceAll("\\s+", " "));
        return sections;
    }

    private static boolean isText(String line) {
        return !line.isBlank() && !line.startsWith("```") && !line.startsWith("Ahead of the calls");
    }

    private static int promiseOf(String heading) {
        if (heading.equals("## What it is")) return Edges.WHAT_IT_IS;
        if (heading.equals("## Terms")) return Edges.TERMS;
        return heading.startsWith("## Promise ") ? Integer.parseInt(heading.replaceAll("^## Promise (\\d+):.*", "$1")) : ELSEWHERE;
    }

    private static List<String> lines() {
        try {
            return Files.readAllLines(FILE);
        } catch (IOException e) {
            throw new IllegalStateException(e);
        }
    }
}
