import java.io.IOException;
import java.io.UncheckedIOException;
import java.nio.file.Files;
import java.nio.file.Path;
import java.util.ArrayList;
import java.util.LinkedHashMap;
import java.util.List;
import java.util.Map;
import java.util.regex.Matcher;
import java.util.regex.Pattern;

/** DOC.md in its parts, "Terms" and the promises by their numbers, and which words of it the tests quote. */
final class Document {
    static final String TERMS = "Terms";
    private static final Pattern PROMISE = Pattern.compile("Promise (\\d+): (.*)");
    private static final Pattern SIGNATURE = Pattern.compile("`([^`]*\\).*?)`: ");
    private static final Pattern EXAMPLE = Pattern.compile("```text\\n(.*?)\\.?\\s*```", Pattern.DOTALL);
    private static final Pattern FACE = Pattern.compile("```java\\n(.*?)```", Pattern.DOTALL);
    private static final Pattern FACE_LINE = Pattern.compile("(?m)^    public (.*);$");
    private static final Pattern WORDS = Pattern.compile("[^ .,;:`-].*[^ .,;:`-]");
    // Nothing that one thread calls can show whether this holds.
    private static final String NOT_TESTED = "The class is not thread-safe";

    private static final class Part {
        final String call;
        final String text;
        final boolean[] isQuoted;

        Part(String call, String text) {
            this.call = call;
            this.text = text;
            isQuoted = new boolean[text.length()];
        }

        void quote(int start, int length) {
            for (int place = start; place < start + length; place++) {
                isQuoted[place] = true;
            }
        }

        /** What lies between the quotes, with the signs at its ends dropped. */
        List<String> unquoted() {
            List<String> found = new ArrayList<>();
            int place = 0;
            while (place < text.length()) {
                int start = place;
                while (place < text.length() && isQuoted[place] == isQuoted[start]) {
                    place++;
                }
                Matcher words = WORDS.matcher(text.substring(start, place));
                if (!isQuoted[start] && words.find()) {
                    found.add(words.group());
                }
            }
            return found;
        }
    }

    private final Map<String, Part> parts = new LinkedHashMap<>();
    private final List<String> face = new ArrayList<>();
    private final List<String> signatures = new ArrayList<>();
    private final String example;

    Document(Path file) {
        String text = textOf(file);
        for (String section : text.split("(?m)^## ")) {
            addPart(section);
        }
        example = firstOf(EXAMPLE, text);
        Matcher line = FACE_LINE.matcher(firstOf(FACE, text));
        while (line.find()) {
            face.add(line.group(1));
        }
    }

    private static String textOf(Path file) {
        try {
            return Files.readString(file);
        } catch (IOException unread) {
            throw new UncheckedIOException(unread);
        }
    }

    private static String firstOf(Pattern block, String text) {
        Matcher found = block.matcher(text);
        return found.find() ? found.group(1) : "";
    }

    private void addPart(String section) {
        String title = section.lines().findFirst().orElse("");
        String body = folded(section.substring(title.length()).split("<p>Examples:")[0]);
        Matcher promise = PROMISE.matcher(title);
        if (title.equals(TERMS)) {
            Part terms = new Part("", body);
            terms.quote(body.indexOf(NOT_TESTED), body.contains(NOT_TESTED) ? NOT_TESTED.length() : 0);
            parts.put(TERMS, terms);
        } else if (promise.matches()) {
            Matcher signature = SIGNATURE.matcher(body);
            boolean isSigned = signature.lookingAt();
            signatures.add(isSigned ? signature.group(1) : title);
            parts.put(promise.group(1), new Part(promise.group(2), body.substring(isSigned ? signature.end() : 0)));
        }
    }

    private static String folded(String text) {
        return text.strip().replaceAll("\\s+", " ");
    }

    String example() {
        return example;
    }

    /** The constructor and the methods as "The public face" lists them. */
    List<String> face() {
        return face;
    }

    /** The same as the promises tell them, each its own one. */
    List<String> signatures() {
        return signatures;
    }

    /** The call that a promise is about; the first promise is about a new object. */
    String callOf(String part) {
        return parts.containsKey(part) ? parts.get(part).call : "";
    }

    void quote(Check check, String where, String part, String words) {
        Part quoted = parts.get(part);
        int start = quoted == null ? -1 : quoted.text.indexOf(words);
        check.yes(where + ": the document does not say: " + words, start >= 0);
        if (start >= 0) {
            check.same(where + ": said more than once: " + words, quoted.text.indexOf(words, start + 1), -1);
            quoted.quote(start, words.length());
        }
    }

    /** Each word of "Terms" and of the promises stands in the quote of a test. */
    void checkAllIsQuoted(Check check) {
        check.yes("document: 44 promises and the terms are read", parts.size() >= 45);
        for (Map.Entry<String, Part> entry : parts.entrySet()) {
            check.same("no test quotes of " + entry.getKey(), entry.getValue().unquoted(), List.of());
        }
    }
}
