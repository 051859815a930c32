/** Runs every test of the project; ends with exit code 1 if one failed. */
public final class AllTests {
    private AllTests() {
    }

    public static void main(String[] arguments) {
        FaceTest.run();
        SettingsTest.run();
        NodesTest.run();
        RoundsTest.run();
        ViewsTest.run();
        MeasuresTest.run();
        TextTest.run();
        SaveTest.run();
        RefusalsTest.run();
        NodeSentencesTest.run();
        NewsSentencesTest.run();
        RoundSentencesTest.run();
        MeasureSentencesTest.run();
        TextSentencesTest.run();
        ModelTest.run();
        System.out.println("checks: " + Check.passed + " passed, " + Check.failed + " failed");
        if (Check.failed != 0) {
            System.exit(1);
        }
    }
}
