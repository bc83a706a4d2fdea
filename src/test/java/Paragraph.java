import java.io.IOException;
import java.io.UncheckedIOException;
import java.nio.file.Files;
import java.nio.file.Path;
import java.util.ArrayList;
import java.util.HashMap;
import java.util.List;
import java.util.Map;
import java.util.stream.Stream;

/** Lines of a file up to an empty one: sentences of the document behind ">", and calls of one new mill. */
record Paragraph(String where, List<String> quotes, List<Script.Step> steps) {
    private static final String NAMING = "let ";

    static List<Paragraph> readAll(Path folder) {
        List<Paragraph> found = new ArrayList<>();
        try (Stream<Path> files = Files.list(folder)) {
            files.sorted().forEach(file -> found.addAll(read(file)));
        } catch (IOException unread) {
            throw new UncheckedIOException(unread);
        }
        return found;
    }

    static List<Paragraph> read(Path file) {
        List<Paragraph> found = new ArrayList<>();
        Map<String, List<Script.Step>> named = new HashMap<>();
        List<String> quotes = new ArrayList<>();
        StringBuilder calls = new StringBuilder();
        int number = 0;
        int first = 0;
        for (String line : linesOf(file)) {
            number++;
            if (line.startsWith(NAMING)) {
                int equal = line.indexOf(" = ");
                named.put(line.substring(NAMING.length(), equal), Script.read(line.substring(equal + 3), named));
            } else if (line.startsWith(">")) {
                quotes.add(line.substring(1).strip());
            } else if (!line.isBlank() && !line.startsWith("#")) {
                first = calls.isEmpty() ? number : first;
                calls.append(line).append(';');
            } else if (line.isBlank() && !calls.isEmpty()) {
                found.add(new Paragraph(file.getFileName() + ":" + first, List.copyOf(quotes),
                        Script.read(calls.toString(), named)));
                quotes.clear();
                calls.setLength(0);
            }
        }
        return found;
    }

    private static List<String> linesOf(Path file) {
        try {
            List<String> lines = new ArrayList<>(Files.readAllLines(file));
            lines.add("");
            return lines;
        } catch (IOException unread) {
            throw new UncheckedIOException(unread);
        }
    }
}
