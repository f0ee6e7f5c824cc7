/** Each sentence of the document that names a boundary: a test of its own at that boundary and just beside it. */
public final class BoundaryTest {
    public static void main(String[] args) {
        Edges e = new Edges();
        new EdgesOfTerms(e).all();
        new EdgesOfText(e).all();
        new EdgesOfLines(e).all();
        new EdgesOfPairs(e).all();
        new EdgesOfTold(e).all();
        new EdgesOfTimes(e).all();
        new EdgesOfSheets(e).all();
        e.close();
    }
}
