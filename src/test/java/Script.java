import java.util.ArrayList;
import java.util.List;
import java.util.Map;
import java.util.regex.Matcher;
import java.util.regex.Pattern;

/**
 * Calls in the document's notation: "sheet(6, 9) = 0; lacking('j') = throws NoSuchElementException". Besides,
 * "0..5" stands for each number in turn, "12 x collate('s')" for twelve calls, "least" and "greatest" for the
 * ends of int, and a name alone for calls that were given this name before.
 */
final class Script {
    /** A call and its answer; where no answer is written, any will do that is not an exception. */
    record Step(Call call, String due) {
        /** Whether it is a call of this name with this answer, which is written. */
        boolean isAnswered(String name, String answer) {
            return call.name().equals(name) && due != null && due.equals(answer);
        }

        boolean isRefused() {
            return due != null && due.startsWith(Call.THROWS);
        }

        boolean isAsDue(String got) {
            return due == null ? !got.startsWith(Call.THROWS) : got.equals(due);
        }

        String told() {
            return due == null ? "any answer" : due;
        }
    }

    private static final Pattern CALL = Pattern.compile("(?:(\\d+) x )?(\\w+)\\((.*)\\)");
    private static final Pattern RANGE = Pattern.compile("(-?\\d+)\\.\\.(-?\\d+)");
    private static final Pattern SIGN = Pattern.compile("'(.)'|\\(char\\) (\\d+)");

    private Script() {
    }

    static List<Step> read(String text, Map<String, List<Step>> named) {
        List<Step> steps = new ArrayList<>();
        for (String part : text.split(";")) {
            String item = part.strip();
            if (named.containsKey(item)) {
                steps.addAll(named.get(item));
            } else if (!item.isEmpty()) {
                readItem(item, steps);
            }
        }
        return steps;
    }

    private static void readItem(String item, List<Step> steps) {
        int equal = item.indexOf(" = ");
        String due = equal < 0 ? null : item.substring(equal + 3).strip();
        Matcher call = CALL.matcher(equal < 0 ? item : item.substring(0, equal));
        if (!call.matches()) {
            throw new IllegalArgumentException("no call: " + item);
        }
        int times = call.group(1) == null ? 1 : Integer.parseInt(call.group(1));
        List<List<Object>> choices = new ArrayList<>();
        for (String argument : call.group(3).isEmpty() ? new String[0] : call.group(3).split(",")) {
            choices.add(choicesOf(argument.strip()));
        }
        for (int time = 0; time < times; time++) {
            for (List<Object> arguments : combined(choices)) {
                steps.add(new Step(new Call(call.group(2), arguments), due));
            }
        }
    }

    private static List<Object> choicesOf(String argument) {
        Matcher range = RANGE.matcher(argument);
        if (!range.matches()) {
            return List.of(valueOf(argument));
        }
        List<Object> numbers = new ArrayList<>();
        for (int number = Integer.parseInt(range.group(1)); number <= Integer.parseInt(range.group(2)); number++) {
            numbers.add(number);
        }
        return numbers;
    }

    private static Object valueOf(String argument) {
        Matcher sign = SIGN.matcher(argument);
        if (sign.matches()) {
            return sign.group(1) != null ? sign.group(1).charAt(0) : (char) Integer.parseInt(sign.group(2));
        }
        return switch (argument) {
            case "true" -> true;
            case "false" -> false;
            case "least" -> Integer.MIN_VALUE;
            case "greatest" -> Integer.MAX_VALUE;
            default -> Integer.parseInt(argument);
        };
    }

    private static List<List<Object>> combined(List<List<Object>> choices) {
        List<List<Object>> rows = List.of(List.of());
        for (List<Object> values : choices) {
            List<List<Object>> longer = new ArrayList<>();
            for (List<Object> row : rows) {
                for (Object value : values) {
                    List<Object> next = new ArrayList<>(row);
                    next.add(value);
                    longer.add(next);
                }
            }
            rows = longer;
        }
        return rows;
    }
}
