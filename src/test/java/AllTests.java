/** Runs the tests that are named, or all of them. */
final class AllTests {
    private static final String[] NAMES = {
        "TermsConventionsTest", "TermsBoardTest", "TermsHopsTest", "TermsEndTest", "Promise1To5Test", "Promise6To9Test",
        "Promise10To14Test", "Promise15To17Test", "Promise18To20Test", "Promise21To23Test", "SentencesTest",
        "GameTest", "HopTest", "LookTest", "AheadTest", "TextTest", "BackTest", "RulesTest", "RobustTest", "ModelTest",
        "SourceTest", "FaceTest", "RoomTest", "ReadmeTest",
    };

    private AllTests() {
    }

    public static void main(String[] names) {
        for (String name : names.length == 0 ? NAMES : names) {
            Check.noSentence();
            runTest(name);
        }
        System.out.println(Check.passed + " checks passed, " + Check.failed + " failed");
        if (Check.failed > 0 || Check.passed == 0) System.exit(1);
    }

    private static void runTest(String name) {
        switch (name) {
            case "TermsConventionsTest": TermsConventionsTest.run(); break;
            case "TermsBoardTest": TermsBoardTest.run(); break;
            case "TermsHopsTest": TermsHopsTest.run(); break;
            case "TermsEndTest": TermsEndTest.run(); break;
            case "Promise1To5Test": Promise1To5Test.run(); break;
            case "Promise6To9Test": Promise6To9Test.run(); break;
            case "Promise10To14Test": Promise10To14Test.run(); break;
            case "Promise15To17Test": Promise15To17Test.run(); break;
            case "Promise18To20Test": Promise18To20Test.run(); break;
            case "Promise21To23Test": Promise21To23Test.run(); break;
            case "SentencesTest": SentencesTest.run(); break;
            case "GameTest": GameTest.run(); break;
            case "HopTest": HopTest.run(); break;
            case "LookTest": LookTest.run(); break;
            case "AheadTest": AheadTest.run(); break;
            case "TextTest": TextTest.run(); break;
            case "BackTest": BackTest.run(); break;
            case "RulesTest": RulesTest.run(); break;
            case "RobustTest": RobustTest.run(); break;
            case "ModelTest": ModelTest.run(); break;
            case "SourceTest": SourceTest.run(); break;
            case "FaceTest": FaceTest.run(); break;
            case "RoomTest": RoomTest.run(); break;
            case "ReadmeTest": ReadmeTest.run(); break;
            default: Check.due("the test " + name + " that AllTests runs", 0, 1);
        }
    }
}
