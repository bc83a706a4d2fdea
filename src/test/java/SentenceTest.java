import java.nio.file.Path;
import java.util.List;
import java.util.Map;

/** The document sentence by sentence: each test under src/test/sentences quotes the words that it holds to. */
final class SentenceTest {
    private static final Path FOLDER = Path.of("src", "test", "sentences");

    private SentenceTest() {
    }

    static void run(Check check, Document document) {
        List<Script.Step> example = Script.read(document.example(), Map.of());
        check.yes("example: it is read", example.size() > 40);
        ScriptRun.run(check, "example", example);
        for (Paragraph test : Paragraph.readAll(FOLDER)) {
            checkQuotes(check, document, test);
            ScriptRun.run(check, test.where(), test.steps());
        }
        document.checkAllIsQuoted(check);
    }

    private static void checkQuotes(Check check, Document document, Paragraph test) {
        check.no(test.where() + ": it quotes nothing", test.quotes().isEmpty());
        for (String quote : test.quotes()) {
            int colon = quote.indexOf(": ");
            String part = quote.substring(0, colon);
            String words = quote.substring(colon + 2);
            document.quote(check, test.where(), part, words);
            String call = document.callOf(part);
            if (words.startsWith("Throws `")) {
                String exception = words.substring(words.indexOf('`') + 1, words.lastIndexOf('`'));
                check.yes(test.where() + ": it has no call that " + words,
                        test.steps().stream().anyMatch(step -> step.isAnswered(call, Call.THROWS + exception)));
            } else if (Call.isOfFace(call)) {
                check.yes(test.where() + ": it asks no answer of " + call,
                        test.steps().stream().anyMatch(step -> step.isAnswered(call, step.due())));
            }
        }
    }
}
