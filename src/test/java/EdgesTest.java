/**
 * For each sentence of the document, from its first to its last, a test of its own: the values just inside and just
 * outside of bounds, empty and full objects, numbers that wrap around, refusals with their order and what they leave
 * as it was.
 */
public final class EdgesTest {
    private EdgesTest() {
    }

    public static void main(String[] args) {
        Due due = new Due();
        run(due);
        due.end();
    }

    static void run(Due due) {
        Quotes doc = new Quotes(due, Quotes.DOCUMENT);
        Edges[] all = {new BookEdges(due, doc), new AnswerEdges(due, doc), new JoinEdges(due, doc),
            new MeltEdges(due, doc), new AskEdges(due, doc), new RefusalEdges(due, doc), new SummaryEdges(due, doc)};
        for (Edges edges : all) {
            edges.run();
        }
        doc.checkAllQuoted();
    }
}
