/** Each sentence of the document that names an edge, named by the number of its promise and by its words. */
public final class EdgesTest {
    public static void main(String[] args) throws Exception {
        Edges e = new Edges();
        new EdgesOfTexts(e).all();
        new EdgesOfTerms(e).all();
        new EdgesOfSheds(e).all();
        new EdgesOfChances(e).all();
        new EdgesOfTries(e).all();
        new EdgesOfSteps(e).all();
        new EdgesOfMates(e).all();
        new EdgesOfTrays(e).all();
        e.close("EdgesTest");
    }
}
