/** Runs every test of the project; its arguments are the paths of DrumWarren.java, the document and README.md. */
public final class AllTests {
    private AllTests() {
    }

    public static void main(String[] arguments) throws Exception {
        ChambersTest.run();
        HaresTest.run();
        MessagesTest.run();
        TicksTest.run();
        OutputTest.run();
        CommandsTest.run();
        TermsEdgesTest.run();
        TextTermsEdgesTest.run();
        ChamberEdgesTest.run();
        HareEdgesTest.run();
        MessageEdgesTest.run();
        TickEdgesTest.run();
        OutputEdgesTest.run();
        CommandEdgesTest.run();
        SentenceTests.compareWith(arguments[1]);
        RandomRunsTest.run();
        LanguageTest.run(arguments[0]);
        ReadmeTest.run(arguments[2], arguments[1]);
        if (!Check.report()) {
            System.exit(1);
        }
    }
}
