import java.io.IOException;
import java.nio.file.Files;
import java.nio.file.Path;
import java.util.regex.Matcher;
import java.util.regex.Pattern;

/** The rules of LANGUAGE.md that can be seen in the text of the class. */
final class LanguageTest {
    private static final Path SOURCE = Path.of("src", "main", "java", "Deckmill.java");
    private static final String[] FORBIDDEN = {
        "->", "::", "\\bcatch\\b", "\\bfinally\\b", "\\bsynchronized\\b", "\\bassert\\b", "\\bprotected\\b",
        "\\bpackage\\b", "\\w+Exact\\b", "\\bSystem\\.(?!arraycopy)", "static\\s*\\{", "\\bRandom\\b",
        "\\bhashCode\\b", "\\btoString\\b", "\" \\+|\\+ \"", "\\bvar\\b", "\\?\\s*extends",
    };

    private LanguageTest() {
    }

    static void run(Check check) {
        String text = source();
        check.same("language: it is read", text.contains("public final class Deckmill"), true);
        for (String part : FORBIDDEN) {
            check.same("language: " + part, Pattern.compile(part).matcher(text).results().count(), 0L);
        }
        int imports = 0;
        Matcher found = Pattern.compile("(?m)^import (.*);$").matcher(text);
        while (found.find()) {
            imports++;
            check.yes("language: import " + found.group(1), found.group(1).equals("java.util.Arrays")
                    || found.group(1).equals("java.util.NoSuchElementException"));
        }
        check.same("language: imports", imports, 2);
        check.yes("language: signs", text.chars().allMatch(sign -> sign < 128));
    }

    private static String source() {
        try {
            return Files.readString(SOURCE);
        } catch (IOException unread) {
            return "";
        }
    }
}
