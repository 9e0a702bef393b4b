/** Runs the tests that are named, or all of them. */
final class AllTests {
    private static final String[] NAMES = {
        "GameTest", "HopTest", "LookTest", "AheadTest", "TextTest", "BackTest", "RulesTest", "RobustTest", "ModelTest",
        "SourceTest",
    };

    private AllTests() {
    }

    public static void main(String[] names) {
        for (String name : names.length == 0 ? NAMES : names) runTest(name);
        System.out.println(Check.passed + " checks passed, " + Check.failed + " failed");
        if (Check.failed > 0 || Check.passed == 0) System.exit(1);
    }

    private static void runTest(String name) {
        switch (name) {
            case "GameTest": GameTest.run(); break;
            case "HopTest": HopTest.run(); break;
            case "LookTest": LookTest.run(); break;
            case "AheadTest": AheadTest.run(); break;
            case "TextTest": TextTest.run(); break;
            case "BackTest": BackTest.run(); break;
            case "RulesTest": RulesTest.run(); break;
            case "RobustTest": RobustTest.run(); break;
            case "ModelTest": ModelTest.run(); break;
            case "SourceTest": SourceTest.run(); break;
            default: Check.due("the test " + name + " that AllTests runs", 0, 1);
        }
    }
}
