/** Runs every test of the project; ends with exit code 1, if an answer wasn't as due. */
public final class AllTests {
    private AllTests() { }

    public static void main(String[] args) {
        FaceTest.run();
        BoxesTest.run();
        RestingTest.run();
        StandingTest.run();
        DoorTest.run();
        ThoughtTest.run();
        TextTest.run();
        ToldTest.run();
        SheetTest.run();
        BoxEdgesTest.run();
        GoneTest.run();
        RestEdgesTest.run();
        StandEdgesTest.run();
        DoorEdgesTest.run();
        ThoughtEdgesTest.run();
        TapeEdgesTest.run();
        ToldEdgesTest.run();
        SheetEdgesTest.run();
        RefusalTest.run();
        LastCallTest.run();
        ReadmeTest.run();
        ModelTest.run();
        if (!Check.report()) System.exit(1);
    }
}
