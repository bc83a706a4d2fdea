import java.lang.reflect.Constructor;
import java.lang.reflect.Executable;
import java.lang.reflect.Method;
import java.lang.reflect.Modifier;
import java.util.Arrays;
import java.util.List;
import java.util.TreeSet;
import java.util.stream.Collectors;

/** The public face: what the document lists, and no other member that can be seen from outside. */
final class FaceTest {
    private FaceTest() {
    }

    static void run(Check check, Document document) {
        TreeSet<String> seen = new TreeSet<>();
        TreeSet<String> names = new TreeSet<>();
        for (Constructor<?> constructor : Deckmill.class.getDeclaredConstructors()) {
            seen.add(told("", "Deckmill", constructor));
        }
        for (Method method : Deckmill.class.getDeclaredMethods()) {
            if (!Modifier.isPrivate(method.getModifiers())) {
                seen.add(told(method.getReturnType() + " ", method.getName(), method));
                names.add(method.getName());
            }
        }
        check.same("face: it is read", document.face().size(), 44);
        checkSame(check, "listed", seen, withoutNames(document.face()));
        checkSame(check, "promised", seen, withoutNames(document.signatures()));
        check.yes("face: public and final", Modifier.isPublic(Deckmill.class.getModifiers())
                && Modifier.isFinal(Deckmill.class.getModifiers()));
        check.yes("face: fields", Arrays.stream(Deckmill.class.getDeclaredFields())
                .allMatch(field -> Modifier.isPrivate(field.getModifiers())));
        checkNamesAreNotUsedInside(check, names);
    }

    private static void checkSame(Check check, String told, TreeSet<String> seen, TreeSet<String> due) {
        check.same("face: what is not " + told, without(seen, due), List.of());
        check.same("face: what is " + told + ", but not there", without(due, seen), List.of());
    }

    private static List<String> without(TreeSet<String> all, TreeSet<String> dropped) {
        return all.stream().filter(one -> !dropped.contains(one)).toList();
    }

    private static void checkNamesAreNotUsedInside(Check check, TreeSet<String> names) {
        for (Class<?> inside : Deckmill.class.getDeclaredClasses()) {
            check.yes("face: a class inside, " + inside, Modifier.isStatic(inside.getModifiers())
                    && !Modifier.isPublic(inside.getModifiers()) && !Modifier.isProtected(inside.getModifiers()));
            for (Method method : inside.getDeclaredMethods()) {
                check.no("face: a name used inside, " + method, names.contains(method.getName()));
            }
        }
        for (Method method : Deckmill.class.getDeclaredMethods()) {
            check.no("face: a private name, " + method,
                    Modifier.isPrivate(method.getModifiers()) && names.contains(method.getName()));
        }
    }

    private static String told(String type, String name, Executable member) {
        String thrown = listed(member.getExceptionTypes());
        return type + name + '(' + listed(member.getParameterTypes()) + ')'
                + (thrown.isEmpty() ? "" : " throws " + thrown);
    }

    private static String listed(Class<?>[] types) {
        return Arrays.stream(types).map(Class::getSimpleName).collect(Collectors.joining(", "));
    }

    /** "int lay(int sheet, int card) throws .." as "int lay(int, int) throws ..". */
    private static TreeSet<String> withoutNames(List<String> signatures) {
        TreeSet<String> found = new TreeSet<>();
        for (String signature : signatures) {
            int end = signature.indexOf(')') + 1;
            found.add(signature.substring(0, end).replaceAll("(\\w+) \\w+(?=[,)])", "$1") + signature.substring(end));
        }
        return found;
    }
}
