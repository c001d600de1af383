import java.util.List;

/** A test of its own for each statement of the document, above all for those that name a boundary case. */
public final class EdgeTest {
    private static final List<Edges> ALL = List.of(new TermEdges(), new CallEdges(), new PriceEdges(), new CoinEdges(),
            new HourEdges(), new TextEdges(), new SnapshotEdges(), new KindEdges(), new ClientEdges(), new OutlookEdges(),
            new AccountEdges());

    public static void main(String[] args) {
        ALL.forEach(Edges::tell);
        Edges.endStatement();
        Edges.C.about("the document");
        Edges.D.untold().forEach(statement -> Edges.C.that("no test tells: " + statement, false));
        Edges.C.end("EdgeTest");
    }
}
