import java.util.ArrayList;
import java.util.List;

/** Makes the calls of a script on a new mill, and compares the answers and what refused calls leave behind. */
final class ScriptRun {
    private ScriptRun() {
    }

    static void run(Check check, String where, List<Script.Step> steps) {
        check.yes(where + ": at most 512 calls", steps.size() <= Twins.MOST_CALLS);
        Deckmill mill = new Deckmill();
        List<Call> taken = new ArrayList<>();
        for (Script.Step step : steps) {
            String got = step.call().answerOf(mill);
            String what = where + ": " + step.call();
            check.same(what, step.isAsDue(got) ? step.told() : got, step.told());
            if (step.isRefused()) {
                Twins.compare(check, what, taken, step.call());
            } else {
                taken.add(step.call());
            }
        }
    }
}
