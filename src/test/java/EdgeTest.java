import java.util.List;

/**
 * Each sentence of the document by a test of its own that names it, with the boundary cases that it tells.
 * The runs are checked on the program and on Oracle; a sentence that no test names makes this one fail.
 */
public final class EdgeTest {
    public static void main(String[] args) throws Exception {
        Due due = new Due();
        for (Class<?> type : List.of(NineLives.class, Oracle.class)) {
            Edges edges = new Edges(due, type);
            EdgesOfWhatItIs.tell(edges);
            EdgesOfTermsI.tell(edges);
            EdgesOfTermsII.tell(edges);
            EdgesOfLaws.tell(edges);
            EdgesOfOrders.tell(edges);
            EdgesOfTermsIII.tell(edges);
            EdgesOfTermsIV.tell(edges);
            EdgesOfPromises1To20.tell(edges);
            EdgesOfPromises21To40.tell(edges);
            edges.nothingIsLeftOut();
        }
        due.finish("EdgeTest");
    }
}
