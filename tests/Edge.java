import java.util.ArrayList;
import java.util.Arrays;
import java.util.List;
import java.util.Map;
import java.util.Set;

/**
 * One edge, as tests/edges tells it. A line there is one of:
 *   # a remark
 *   == PROMISE: TITLE      a new edge, on a new object
 *   told "TEXT"            types TEXT and has it read; due are as many items as TEXT has semicolons
 *   land "TEXT" = ANSWER   types TEXT and has it read
 *   say "TEXT"             types TEXT
 *   fill N LETTER          types LETTER N times
 *   times N CALL ..        a call, N times
 *   CALL .. [= ANSWER]     a call, its numbers, and what is due
 * A number is written as such, or as MIN, MAX, BAD, STATE, FULL, NONE, NO; -n@ is -10 less n (a fault at n).
 */
final class Edge {
    private static final Map<String, Integer> NAMED = Map.of("MIN", Integer.MIN_VALUE, "MAX", Integer.MAX_VALUE,
        "BAD", -1, "STATE", -2, "FULL", -3, "NONE", -9, "NO", -1000000);
    private static final Set<String> QUESTIONS = Set.of("scale", "life", "end", "place", "now", "behind", "first",
        "freed", "bestJump", "orders", "bars", "trip", "parts", "fits", "sure", "clash", "count", "trace");

    /** One call, and what it must answer. */
    static final class Step {
        final String name;
        final int[] args;
        final boolean hasDue;
        final long due;

        Step(String name, int[] args, boolean hasDue, long due) {
            this.name = name;
            this.args = args;
            this.hasDue = hasDue;
            this.due = due;
        }

        boolean isQuestion() {
            return QUESTIONS.contains(name);
        }

        boolean isRefused() {
            if (!hasDue) {
                return false;
            }
            if (name.equals("freed") || name.equals("rate")) {
                return due == -1000000;
            }
            return name.equals("land") ? due < 0 : due >= -3 && due <= -1;
        }

        @Override
        public String toString() {
            String told = Arrays.toString(args);
            return name + "(" + told.substring(1, told.length() - 1) + ")";
        }
    }

    final int promise;
    final String title;
    final List<Step> steps = new ArrayList<>();

    private Edge(String head) {
        int colon = head.indexOf(':');
        promise = Integer.parseInt(head.substring(0, colon).trim());
        title = head.substring(colon + 1).trim();
    }

    static void readsInto(List<Edge> edges, List<String> lines) {
        Edge edge = null;
        for (String line : lines) {
            String told = line.trim();
            if (told.startsWith("==")) {
                edge = new Edge(told.substring(2));
                edges.add(edge);
            } else if (!told.isEmpty() && !told.startsWith("#")) {
                edge.reads(told);
            }
        }
    }

    private void reads(String line) {
        if (line.indexOf('"') >= 0) {
            readsText(line.substring(0, line.indexOf('"')).trim(),
                line.substring(line.indexOf('"') + 1, line.lastIndexOf('"')), line.substring(line.lastIndexOf('"') + 1));
            return;
        }
        String[] words = line.split(" +");
        if (words[0].equals("fill")) {
            many(number(words[1]), new Step("type", new int[] {number(words[2])}, false, 0));
        } else if (words[0].equals("times")) {
            many(number(words[1]), call(Arrays.copyOfRange(words, 2, words.length)));
        } else {
            steps.add(call(words));
        }
    }

    private void readsText(String name, String text, String rest) {
        for (int i = 0; i < text.length(); i++) {
            steps.add(new Step("type", new int[] {text.charAt(i)}, false, 0));
        }
        if (name.equals("told")) {
            steps.add(new Step("land", new int[0], true, text.chars().filter(sign -> sign == ';').count()));
        } else if (name.equals("land")) {
            steps.add(new Step("land", new int[0], true, number(rest.replace("=", "").trim())));
        }
    }

    private void many(int times, Step step) {
        for (int i = 0; i < times; i++) {
            steps.add(step);
        }
    }

    private static Step call(String[] words) {
        int equals = Arrays.asList(words).indexOf("=");
        int end = equals < 0 ? words.length : equals;
        int[] args = new int[end - 1];
        for (int i = 1; i < end; i++) {
            args[i - 1] = number(words[i]);
        }
        return new Step(words[0], args, equals >= 0, equals < 0 ? 0 : number(words[equals + 1]));
    }

    private static int number(String word) {
        if (NAMED.containsKey(word)) {
            return NAMED.get(word);
        }
        if (word.endsWith("@")) {
            return -10 + Integer.parseInt(word.substring(0, word.length() - 1));
        }
        return Integer.parseInt(word);
    }
}
