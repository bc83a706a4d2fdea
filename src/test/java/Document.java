import java.io.IOException;
import java.io.UncheckedIOException;
import java.nio.file.Files;
import java.nio.file.Path;
import java.util.ArrayList;
import java.util.LinkedHashMap;
import java.util.List;
import java.util.Map;
import java.util.regex.Matcher;
import java.util.regex.Pattern;

/** DOC.md in its parts, "Terms" and the promises by their numbers, and which words of it the tests quote. */
final class Document {
    static final String TERMS = "Terms";
    private static final Pattern PROMISE = Pattern.compile("Promise (\\d+): (.*)");
    private static final Pattern EXAMPLE = Pattern.compile("```text\\n(.*?)\\.?\\s*```", Pattern.DOTALL);
    // Nothing that one thread calls can show whether this holds.
    private static final String NOT_TESTED = "The class is not thread-safe";

    private static final class Part {
        final String call;
        final String text;
        final List<String> whole = new ArrayList<>();
        final boolean[] isQuoted;

        Part(String call, String text) {
            this.call = call;
            this.text = text;
            isQuoted = new boolean[text.length()];
        }
    }

    private final Map<String, Part> parts = new LinkedHashMap<>();
    private final String example;

    Document(Path file) {
        String text = textOf(file);
        for (String section : text.split("(?m)^## ")) {
            addPart(section);
        }
        Matcher found = EXAMPLE.matcher(text);
        example = found.find() ? found.group(1) : "";
    }

    private static String textOf(Path file) {
        try {
            return Files.readString(file);
        } catch (IOException unread) {
            throw new UncheckedIOException(unread);
        }
    }

    private void addPart(String section) {
        String title = section.lines().findFirst().orElse("");
        Matcher promise = PROMISE.matcher(title);
        if (title.equals(TERMS)) {
            String terms = folded(section.substring(title.length()).split("<p>Examples:")[0]);
            Part part = new Part("", terms);
            for (String sentence : terms.split("\\. |\\.$")) {
                if (!sentence.equals(NOT_TESTED) && sentence.indexOf(' ') > 0) {
                    part.whole.add(sentence);
                }
            }
            parts.put(TERMS, part);
        } else if (promise.matches()) {
            List<String> lines = section.lines().skip(1)
                    .map(line -> line.replaceFirst("^`.*?`: ", "")).filter(line -> !line.isBlank()).toList();
            Part part = new Part(promise.group(2), folded(String.join(" ", lines)));
            lines.stream().filter(line -> line.startsWith("Throws ")).map(Document::folded).forEach(part.whole::add);
            parts.put(promise.group(1), part);
        }
    }

    private static String folded(String text) {
        return text.strip().replaceAll("\\s+", " ");
    }

    String example() {
        return example;
    }

    /** The call that a promise is about. */
    String callOf(String part) {
        return parts.containsKey(part) ? parts.get(part).call : "";
    }

    void quote(Check check, String where, String part, String words) {
        Part quoted = parts.get(part);
        int start = quoted == null ? -1 : quoted.text.indexOf(words);
        check.yes(where + ": the document does not say: " + words, start >= 0);
        if (start < 0) {
            return;
        }
        check.same(where + ": said more than once: " + words, quoted.text.indexOf(words, start + 1), -1);
        for (int place = start; place < start + words.length(); place++) {
            quoted.isQuoted[place] = true;
        }
    }

    /** Each number of the document, each of its exceptions and each sentence of "Terms" has a test that quotes it. */
    void checkAllIsQuoted(Check check) {
        check.yes("document: 44 promises and the terms are read", parts.size() >= 45);
        for (Map.Entry<String, Part> entry : parts.entrySet()) {
            Part part = entry.getValue();
            for (int place = 0; place < part.text.length(); place++) {
                if (Character.isDigit(part.text.charAt(place))) {
                    String near = part.text.substring(Math.max(0, place - 20),
                            Math.min(part.text.length(), place + 20));
                    check.yes("no test quotes the number in " + entry.getKey() + ": " + near, part.isQuoted[place]);
                }
            }
            for (String sentence : part.whole) {
                check.yes("no test quotes " + entry.getKey() + ": " + sentence, isQuoted(part, sentence));
            }
        }
    }

    /** Quoting a part of a sentence is enough, if it is more than a word or two. */
    private static boolean isQuoted(Part part, String sentence) {
        int start = part.text.indexOf(sentence);
        int quoted = 0;
        for (int place = start; place < start + sentence.length(); place++) {
            quoted += part.isQuoted[place] ? 1 : 0;
        }
        return quoted * 2 >= sentence.length();
    }
}
