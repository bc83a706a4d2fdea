import java.nio.file.Path;
import java.util.ArrayList;
import java.util.List;

/** Two mills with the same calls behind them, but for one that was refused: whatever is asked, they answer alike. */
final class Twins {
    // What later calls of a mill answer is free.
    static final int MOST_CALLS = 512;
    private static final List<Paragraph> QUESTIONS = Paragraph.read(Path.of("src", "test", "questions.txt"));

    private Twins() {
    }

    /** New mills for each paragraph of questions: some of them change a mill, and 512 calls are not enough for all. */
    static void compare(Check check, String what, List<Call> before, Call refused) {
        List<Call> with = new ArrayList<>(before);
        with.add(refused);
        for (Paragraph questions : QUESTIONS) {
            check.yes(what + ": too many calls", with.size() + questions.steps().size() <= MOST_CALLS);
            Deckmill one = millBehind(with);
            Deckmill other = millBehind(before);
            for (Script.Step step : questions.steps()) {
                String got = step.call().answerOf(one);
                String due = step.call().answerOf(other);
                check.same(what + ": changes nothing, " + step.call(), got, due);
                if (!got.equals(due)) {
                    break;
                }
            }
        }
    }

    private static Deckmill millBehind(List<Call> calls) {
        Deckmill mill = new Deckmill();
        for (Call call : calls) {
            call.answerOf(mill);
        }
        return mill;
    }
}
