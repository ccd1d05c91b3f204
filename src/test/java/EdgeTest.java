import java.nio.file.Path;

/** The document sentence by sentence: the boundary that a sentence names, on both of its sides. */
final class EdgeTest {
    public static void main(String[] args) throws Exception {
        Doc doc = new Doc(Path.of(args[1]));
        Edge.readFrom(doc);
        EdgeErrors.run();
        EdgeMesh.run();
        EdgeTexts.run();
        EdgeRoutes.run();
        EdgeLooks.run();
        EdgeChanges.run();
        EdgePredictions.run();
        EdgeObservations.run();
        EdgeChances.run();
        EdgeSaved.run();
        Check.test("boundaries without a test");
        for (String boundary : doc.unquoted()) {
            Check.holds(boundary, false);
        }
        Check.end();
    }
}
