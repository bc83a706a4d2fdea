import java.lang.reflect.Method;
import java.lang.reflect.Modifier;
import java.util.Arrays;
import java.util.TreeSet;

/** The public face: what the document lists, and no other member that can be seen from outside. */
final class FaceTest {
    private static final String[] FACE = {
        "int sheet(int,int)", "int put(int,int,int,int)", "int at(int,int,int)", "int lay(int,int)",
        "boolean isEven(int)", "int pass(int,int,int,int)", "int outOf(int)", "int tolerance(int)",
        "int knife(int,int)", "int print(int,int)", "int spoiled()", "int pile(int,boolean)",
        "int pulp(int)", "int layer(int,int,boolean)", "int strip()", "int snap()", "boolean isOpaque()",
        "int mark(int,int,int)", "boolean isTurnable()", "int collate(char)", "int lacking(char)",
        "int possible(char)", "char state(int)", "char wrong(int)", "int cards(int)",
        "int cardAt(int,int)", "boolean open(int)", "boolean seal(int)", "int take(int,int)",
        "int add(int,int)", "int shuffle(int,boolean)", "int cut(int,int)", "int period(int)",
        "int destroy(int)", "int order(int,char,int,int)", "int fill()", "boolean isFilled(int)",
        "int house(int)", "int paid(int)", "long checksum()", "float plainShare()",
        "double meanPrice()", "boolean isSound()",
    };

    private FaceTest() {
    }

    static void run(Check check) {
        TreeSet<String> seen = new TreeSet<>();
        TreeSet<String> names = new TreeSet<>();
        for (Method method : Deckmill.class.getDeclaredMethods()) {
            if (!Modifier.isPrivate(method.getModifiers())) {
                seen.add(told(method));
                names.add(method.getName());
            }
        }
        for (Class<?> inside : Deckmill.class.getDeclaredClasses()) {
            for (Method method : inside.getDeclaredMethods()) {
                check.no("face: a name used inside, " + method, names.contains(method.getName()));
            }
        }
        for (Method method : Deckmill.class.getDeclaredMethods()) {
            check.no("face: a private name, " + method,
                    Modifier.isPrivate(method.getModifiers()) && names.contains(method.getName()));
        }
        check.same("face: methods", seen, new TreeSet<>(Arrays.asList(FACE)));
        check.yes("face: final", Modifier.isFinal(Deckmill.class.getModifiers()));
        check.same("face: constructors", Deckmill.class.getConstructors().length, 1);
        check.yes("face: fields", Arrays.stream(Deckmill.class.getDeclaredFields())
                .allMatch(field -> Modifier.isPrivate(field.getModifiers())));
    }

    private static String told(Method method) {
        StringBuilder text = new StringBuilder();
        text.append(method.getReturnType()).append(' ').append(method.getName()).append('(');
        for (Class<?> type : method.getParameterTypes()) {
            text.append(text.charAt(text.length() - 1) == '(' ? "" : ",").append(type);
        }
        return text.append(')').toString();
    }
}
