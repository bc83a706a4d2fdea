/** Runs every test of the project; ends with exit code 1 if one fails. */
public final class AllTests {
    private AllTests() {
    }

    public static void main(String[] args) {
        Check check = new Check();
        FaceTest.run(check);
        LanguageTest.run(check);
        SentenceTest.run(check);
        ManyCallsTest.run(check);
        System.out.println("checks: " + check.passed() + " as due, " + check.failed() + " not");
        if (check.failed() != 0) {
            System.exit(1);
        }
    }
}
