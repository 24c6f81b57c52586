/** Runs every test of the project. */
final class AllTests {
    private AllTests() {
    }

    public static void main(String[] args) throws Exception {
        EnteringTest.run();
        EntriesTest.run();
        DecisionsTest.run();
        DiscardsTest.run();
        OrderTest.run();
        AskingTest.run();
        SheetTest.run();
        NumbersTest.run();
        PointsTest.run();
        EdgesTest.run();
        FirstExceptionTest.run();
        RefusedTest.run();
        ExtremesTest.run();
        ModelTest.run();
        LanguageTest.run();
        ReadmeTest.run();
        System.out.println(Check.passed + " passed, " + Check.failed + " failed");
        if (Check.failed > 0) {
            System.exit(1);
        }
    }
}
