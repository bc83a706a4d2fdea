import java.io.IOException;
import java.lang.reflect.Field;
import java.lang.reflect.Method;
import java.lang.reflect.Modifier;
import java.nio.file.Files;
import java.nio.file.Path;
import java.util.regex.Matcher;
import java.util.regex.Pattern;

/** The rules of LANGUAGE.md that can be seen in the text of the class. */
final class LanguageTest {
    private static final Path SOURCE = Path.of("src", "main", "java", "Deckmill.java");
    private static final String[] FORBIDDEN = {
        "->", "::", "\\bcatch\\b", "\\bfinally\\b", "\\bsynchronized\\b", "\\bassert\\b", "\\bprotected\\b",
        "\\bpackage\\b", "\\w+Exact\\b", "\\bSystem\\.(?!arraycopy)", "static\\s*\\{", "\\bRandom\\b",
        "\\bhashCode\\b", "\\btoString\\b", "\" \\+|\\+ \"", "\\bvar\\b", "\\?\\s*extends",
    };
    private static final String[] EXCEPTIONS = {
        "IllegalStateException", "IllegalArgumentException", "IndexOutOfBoundsException", "ArithmeticException",
        "UnsupportedOperationException", "NoSuchElementException", "RuntimeException",
    };
    private static final int MOST_PARAMETERS = 7;
    private static final int MOST_CLASSES = 12;
    private static final int MOST_FIELDS = 20;

    private LanguageTest() {
    }

    static void run(Check check) {
        String text = source();
        check.same("language: it is read", text.contains("public final class Deckmill"), true);
        check.yes("language: signs", text.chars().allMatch(sign -> sign < 128));
        for (String part : FORBIDDEN) {
            check.same("language: " + part, times(part, text), 0L);
        }
        check.same("language: what is thrown", times("\\bthrow\\b", text),
                times("\\bthrow new (" + String.join("|", EXCEPTIONS) + ")\\((\"[^\"]*\")?\\);", text));
        checkImports(check, text);
        Class<?>[] inside = Deckmill.class.getDeclaredClasses();
        check.yes("language: classes", inside.length < MOST_CLASSES);
        checkMembers(check, Deckmill.class);
        for (Class<?> one : inside) {
            checkMembers(check, one);
        }
    }

    private static long times(String part, String text) {
        return Pattern.compile(part).matcher(text).results().count();
    }

    private static void checkImports(Check check, String text) {
        Matcher found = Pattern.compile("(?m)^import (.*);$").matcher(text);
        int imports = 0;
        while (found.find()) {
            imports++;
            check.yes("language: import " + found.group(1), found.group(1).equals("java.util.Arrays")
                    || found.group(1).equals("java.util.NoSuchElementException"));
        }
        check.same("language: imports", imports, 2);
    }

    private static void checkMembers(Check check, Class<?> type) {
        int fields = 0;
        for (Field field : type.getDeclaredFields()) {
            boolean isStatic = Modifier.isStatic(field.getModifiers());
            fields += isStatic ? 0 : 1;
            check.yes("language: " + field, !isStatic || Modifier.isFinal(field.getModifiers())
                    && (field.getType().isPrimitive() || field.getType() == String.class));
        }
        check.yes("language: fields of " + type, fields <= MOST_FIELDS);
        for (Method method : type.getDeclaredMethods()) {
            check.yes("language: " + method, method.getParameterCount() <= MOST_PARAMETERS);
        }
    }

    private static String source() {
        try {
            return Files.readString(SOURCE);
        } catch (IOException unread) {
            return "";
        }
    }
}
