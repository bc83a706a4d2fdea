import java.nio.file.Path;

/** Runs every test of the project; ends with exit code 1 if one fails. */
public final class AllTests {
    private AllTests() {
    }

    public static void main(String[] args) {
        Check check = new Check();
        Document document = new Document(Path.of("..", "shared", "DOC.md"));
        FaceTest.run(check, document);
        LanguageTest.run(check);
        ReadmeTest.run(check);
        SentenceTest.run(check, document);
        ManyCallsTest.run(check);
        System.out.println("checks: " + check.passed() + " as due, " + check.failed() + " not");
        if (check.failed() != 0) {
            System.exit(1);
        }
    }
}
