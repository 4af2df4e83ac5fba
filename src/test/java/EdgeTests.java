/**
 * Every sentence of the document, on its edge, inside and outside. The sentences are quoted; a sentence that no check
 * quotes fails too, but for the face, which FaceTests has, and for what is not promised.
 */
public final class EdgeTests {
    private EdgeTests() {
    }

    public static void main(String[] args) {
        Checks checks = new Checks("EdgeTests");
        Document document = new Document();
        Edges edges = new Edges(checks, document);
        new WholeEdges(edges).run();
        new TermEdges(edges).run();
        new BarEdges(edges).run();
        new StepEdges(edges).run();
        new WayEdges(edges).run();
        new TextEdges(edges).run();
        new StateEdges(edges).run();
        new UnlikeEdges(edges).run();
        checks.due("promises", document.count("Promise"), 26);
        for (String line : document.unquoted()) {
            checks.holds("no check quotes " + line, false);
        }
        checks.end();
    }
}
