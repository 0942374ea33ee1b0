/** Runs every test of the project; the last line counts. */
public final class AllTests {
    private AllTests() {
    }

    public static void main(String[] args) {
        CommonTests.run();
        AheadTests.run();
        KeepTests.run();
        TermsEdges.run();
        TextEdges.run();
        CommonEdges.run();
        AheadEdges.run();
        KeepEdges.run();
        Doc.close();
        RuleTests.run();
        ReadmeTests.run();
        ModelTests.run(args.length > 0 ? Integer.parseInt(args[0]) : 300);
        Due.close();
        if (Due.failures() != 0) {
            System.exit(1);
        }
    }
}
