import java.util.ArrayList;
import java.util.LinkedHashMap;
import java.util.List;
import java.util.Map;
import java.util.regex.Matcher;
import java.util.regex.Pattern;

/**
 * How deep the methods of a class's text call one another. Methods are told apart by their names alone, so two
 * of one name count as one that calls whatever either does: the depth found is never less than the true one.
 */
final class CallDepth {
    private static final Pattern HEAD =
        Pattern.compile("^( {4}| {8})(?!if |for |while |switch |return |new )\\w[\\w\\[\\] ]* (\\w+)\\([^;]*\\)[^;]*\\{$");
    private static final Pattern CALL = Pattern.compile("(?<!new )\\b(\\w+)\\(");

    private final Map<String, List<String>> calls = new LinkedHashMap<>();

    /** The text is without comments. */
    CallDepth(List<String> lines) {
        for (int i = 0; i < lines.size(); i++) {
            Matcher head = HEAD.matcher(lines.get(i));
            if (head.matches()) {
                int end = i;
                while (end < lines.size() && !lines.get(end).equals(head.group(1) + "}")) {
                    end++;
                }
                List<String> called = calls.computeIfAbsent(head.group(2), name -> new ArrayList<>());
                Matcher call = CALL.matcher(String.join("\n", lines.subList(i + 1, end)));
                while (call.find()) {
                    called.add(call.group(1));
                }
            }
        }
        for (List<String> called : calls.values()) {
            called.retainAll(calls.keySet());
        }
    }

    int methods() {
        return calls.size();
    }

    /** The longest way down from a method, methods that call one another in a circle counting as one step. */
    List<String> longest() {
        List<String> longest = new ArrayList<>();
        for (String from : calls.keySet()) {
            List<String> way = longestFrom(from);
            if (way.size() > longest.size()) {
                longest = way;
            }
        }
        return longest;
    }

    private List<String> longestFrom(String from) {
        List<String> circle = circleOf(from);
        List<String> below = new ArrayList<>();
        for (String member : circle) {
            for (String called : calls.get(member)) {
                if (!circle.contains(called)) {
                    List<String> way = longestFrom(called);
                    below = way.size() > below.size() ? way : below;
                }
            }
        }
        List<String> way = new ArrayList<>();
        way.add(circle.size() == 1 ? from : circle.toString());
        way.addAll(below);
        return way;
    }

    private List<String> circleOf(String from) {
        List<String> circle = new ArrayList<>(List.of(from));
        for (String other : calls.keySet()) {
            if (!other.equals(from) && reached(from).contains(other) && reached(other).contains(from)) {
                circle.add(other);
            }
        }
        return circle;
    }

    private List<String> reached(String from) {
        List<String> reached = new ArrayList<>(calls.get(from));
        for (int i = 0; i < reached.size(); i++) {
            for (String next : calls.get(reached.get(i))) {
                if (!reached.contains(next)) {
                    reached.add(next);
                }
            }
        }
        return reached;
    }
}
