/** Every sentence of the document's Terms and promises, quoted, with checks of what it says at its edges. */
public final class EdgesTest {
  public static void main(String[] args) {
    TermsEdges.all();
    TownEdges.all();
    SalesEdges.all();
    OutcomeEdges.all();
    LinesEdges.all();
    LawsEdges.all();
    KeptEdges.all();
    Edges.finish();
  }
}
