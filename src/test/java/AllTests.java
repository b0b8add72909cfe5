/** Runs every test of the project's own; exit code 1 if one fails. */
public final class AllTests {
    private static final long MOST_SECONDS = 900;

    public static void main(String[] args) {
        watch();
        Suite suite = new Suite();
        FaceTests.addTo(suite);
        ReadmeTests.addTo(suite);
        LibraryTests.addTo(suite);
        SessionTests.addTo(suite);
        ActTests.addTo(suite);
        UndoTests.addTo(suite);
        Edges edges = new Edges(suite);
        TextEdges.addTo(edges);
        LibraryEdges.addTo(edges);
        FieldEdges.addTo(edges);
        QuestionEdges.addTo(edges);
        ActEdges.addTo(edges);
        UndoEdges.addTo(edges);
        edges.checkParts();
        ModelTests.addTo(suite);
        if (!suite.report()) {
            System.exit(1);
        }
    }

    /** A call that does not end must fail the run, not hold it up. */
    private static void watch() {
        Thread watcher = new Thread(() -> {
            try {
                Thread.sleep(MOST_SECONDS * 1000);
            } catch (InterruptedException e) {
                return;
            }
            System.out.println("the tests did not end in " + MOST_SECONDS + " seconds");
            Runtime.getRuntime().halt(1);
        });
        watcher.setDaemon(true);
        watcher.start();
    }
}
