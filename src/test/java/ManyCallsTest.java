import java.lang.reflect.InvocationTargetException;
import java.lang.reflect.Method;
import java.lang.reflect.Modifier;
import java.util.Arrays;
import java.util.Comparator;
import java.util.Random;

/** Runs of up to 512 calls with drawn arguments, each answer compared with the model's. */
final class ManyCallsTest {
    private static final int RUNS = 1500;
    private static final int[] EXTREMES = {Integer.MIN_VALUE, Integer.MAX_VALUE, -41, 10000, 1 << 16};

    private final Random random;
    private final Deckmill mill = new Deckmill();
    private final Model model = new Model();

    private ManyCallsTest(int seed) {
        random = new Random(seed);
    }

    static void run(Check check) {
        for (int seed = 0; seed < RUNS; seed++) {
            new ManyCallsTest(seed).compare(check, seed);
        }
    }

    /** Sorted, since reflection tells methods in any order, and each run must be the same each time. */
    private static Method[] face() {
        return Arrays.stream(Deckmill.class.getDeclaredMethods())
                .filter(method -> Modifier.isPublic(method.getModifiers()))
                .sorted(Comparator.comparing(Method::getName)).toArray(Method[]::new);
    }

    private void compare(Check check, int seed) {
        Method[] face = face();
        int made = seed % 4 == 0 ? 0 : prepare(check);
        for (; made < 512; made++) {
            Method call = face[random.nextInt(face.length)];
            Object[] arguments = draw(call);
            String told = "run " + seed + ": " + call.getName() + Arrays.toString(arguments);
            check.same(told, answer(mill, call.getName(), arguments), answer(model, call.getName(), arguments));
        }
    }

    /** Without this, few runs would come as far as to have packs. */
    private int prepare(Check check) {
        Object[][] first = {
            {"sheet", 6, 9}, {"lay", 0, random.nextInt(54)}, {"print", 0, 20},
            {"layer", 1, 60, true}, {"layer", 1, 60, false},
            {"collate", 's'}, {"collate", 'f'}, {"collate", 's'}, {"collate", 'j'}, {"collate", 's'},
            {"open", 0}, {"open", 1}, {"open", 3},
        };
        for (Object[] call : first) {
            Object[] arguments = Arrays.copyOfRange(call, 1, call.length);
            String name = (String) call[0];
            check.same(name, answer(mill, name, arguments), answer(model, name, arguments));
        }
        return first.length;
    }

    private Object[] draw(Method call) {
        Class<?>[] types = call.getParameterTypes();
        Object[] arguments = new Object[types.length];
        for (int i = 0; i < types.length; i++) {
            if (types[i] == int.class) {
                arguments[i] = drawNumber();
            } else if (types[i] == char.class) {
                arguments[i] = "fjsssx".charAt(random.nextInt(6));
            } else {
                arguments[i] = random.nextBoolean();
            }
        }
        return arguments;
    }

    private int drawNumber() {
        int sort = random.nextInt(40);
        if (sort == 0) {
            return EXTREMES[random.nextInt(EXTREMES.length)];
        }
        if (sort < 6) {
            return random.nextInt(105) - 2;
        }
        if (sort < 9) {
            return random.nextInt(90) - 45;
        }
        return sort < 14 ? random.nextInt(14) - 1 : random.nextInt(5);
    }

    private static String answer(Object target, String name, Object[] arguments) {
        for (Method method : target.getClass().getDeclaredMethods()) {
            if (method.getName().equals(name)) {
                return answer(target, method, arguments);
            }
        }
        throw new AssertionError(name);
    }

    private static String answer(Object target, Method method, Object[] arguments) {
        try {
            return String.valueOf(method.invoke(target, arguments));
        } catch (InvocationTargetException thrown) {
            return thrown.getCause().getClass().getName();
        } catch (IllegalAccessException hidden) {
            throw new AssertionError(hidden);
        }
    }
}
