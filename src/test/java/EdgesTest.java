/** Each sentence of the document that names an edge: the least, the most, one beyond, empty, full, refused. */
public final class EdgesTest {
    private EdgesTest() {
    }

    public static void main(String[] args) throws ReflectiveOperationException {
        Due.runTestsOf(EdgesOfTexts.class);
        Due.runTestsOf(EdgesOfRules.class);
        Due.runTestsOf(EdgesOfDays.class);
        Due.runTestsOf(EdgesOfQuestions.class);
        Due.runTestsOf(EdgesOfSearches.class);
        Due.eachPromiseHasATest();
        System.out.println(Due.wrong() == 0 ? "all edges hold" : Due.wrong() + " answers are not as due");
        if (Due.wrong() != 0) {
            System.exit(1);
        }
    }
}
