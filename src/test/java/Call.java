import java.lang.reflect.InvocationTargetException;
import java.lang.reflect.Method;
import java.lang.reflect.Modifier;
import java.util.List;
import java.util.Map;
import java.util.TreeMap;

/** A call of the face by its name, so that a text or a draw can make it, of the class or of its model. */
record Call(String name, List<Object> arguments) {
    static final String THROWS = "throws ";
    private static final Map<String, Method> OF_MILL = face(Deckmill.class);
    private static final Map<String, Method> OF_MODEL = face(Model.class);

    /** Sorted, since reflection tells methods in any order, and each run must be the same each time. */
    private static Map<String, Method> face(Class<?> type) {
        Map<String, Method> found = new TreeMap<>();
        for (Method method : type.getDeclaredMethods()) {
            if (Modifier.isPublic(method.getModifiers())) {
                found.put(method.getName(), method);
            }
        }
        return found;
    }

    static boolean isOfFace(String name) {
        return OF_MILL.containsKey(name);
    }

    static List<Method> all() {
        return List.copyOf(OF_MILL.values());
    }

    static String refusal(Class<?> thrown) {
        return THROWS + thrown.getSimpleName();
    }

    /** The very class of an exception is told: what the machine throws is often a subclass of what is due. */
    String answerOf(Object target) {
        Method method = (target instanceof Deckmill ? OF_MILL : OF_MODEL).get(name);
        try {
            return String.valueOf(method.invoke(target, arguments.toArray()));
        } catch (InvocationTargetException thrown) {
            return refusal(thrown.getCause().getClass());
        } catch (IllegalAccessException hidden) {
            throw new AssertionError(hidden);
        }
    }

    @Override
    public String toString() {
        StringBuilder text = new StringBuilder(name).append('(');
        for (Object argument : arguments) {
            text.append(text.charAt(text.length() - 1) == '(' ? "" : ", ");
            text.append(argument instanceof Character sign ? "(char) " + (int) sign : argument);
        }
        return text.append(')').toString();
    }
}
