/** Runs every test of the project; its argument is the path of DrumWarren.java. */
public final class AllTests {
    private AllTests() {
    }

    public static void main(String[] arguments) throws Exception {
        ChambersTest.run();
        HaresTest.run();
        MessagesTest.run();
        TicksTest.run();
        OutputTest.run();
        CommandsTest.run();
        RandomRunsTest.run();
        LanguageTest.run(arguments[0]);
        if (!Check.report()) {
            System.exit(1);
        }
    }
}
