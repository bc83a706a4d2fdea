import java.lang.reflect.Method;
import java.util.ArrayList;
import java.util.List;
import java.util.Map;
import java.util.Random;

/** Runs of up to 512 calls with drawn arguments, each answer compared with the model's. */
final class ManyCallsTest {
    private static final int RUNS = 1500;
    private static final int[] EXTREMES = {Integer.MIN_VALUE, Integer.MAX_VALUE, -41, 10000, 1 << 16};
    private static final List<Method> FACE = Call.all();

    private final Random random;
    private final Deckmill mill = new Deckmill();
    private final Model model = new Model();

    private ManyCallsTest(int seed) {
        random = new Random(seed);
    }

    static void run(Check check) {
        for (int seed = 0; seed < RUNS; seed++) {
            new ManyCallsTest(seed).run(check, seed);
        }
    }

    private void run(Check check, int seed) {
        List<Call> calls = seed % 4 == 0 ? new ArrayList<>() : firstCalls();
        while (calls.size() < Twins.MOST_CALLS) {
            calls.add(draw());
        }
        for (Call call : calls) {
            check.same("run " + seed + ": " + call, call.answerOf(mill), call.answerOf(model));
        }
    }

    /** Without these, few runs would come as far as to have packs. */
    private List<Call> firstCalls() {
        String first = "sheet(6, 9); lay(0, " + random.nextInt(54) + "); print(0, 20); layer(1, 60, true);"
                + "layer(1, 60, false); collate('s'); collate('f'); collate('s'); collate('j'); collate('s');"
                + "open(0..1); open(3)";
        List<Call> calls = new ArrayList<>();
        for (Script.Step step : Script.read(first, Map.of())) {
            calls.add(step.call());
        }
        return calls;
    }

    private Call draw() {
        Method method = FACE.get(random.nextInt(FACE.size()));
        List<Object> arguments = new ArrayList<>();
        for (Class<?> type : method.getParameterTypes()) {
            if (type == int.class) {
                arguments.add(drawNumber());
            } else if (type == char.class) {
                arguments.add("fjsssx".charAt(random.nextInt(6)));
            } else {
                arguments.add(random.nextBoolean());
            }
        }
        return new Call(method.getName(), arguments);
    }

    private int drawNumber() {
        int sort = random.nextInt(40);
        if (sort == 0) {
            return EXTREMES[random.nextInt(EXTREMES.length)];
        }
        if (sort < 6) {
            return random.nextInt(105) - 2;
        }
        if (sort < 9) {
            return random.nextInt(90) - 45;
        }
        return sort < 14 ? random.nextInt(14) - 1 : random.nextInt(5);
    }
}
