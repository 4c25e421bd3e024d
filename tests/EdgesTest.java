import java.lang.reflect.Method;
import java.nio.file.DirectoryStream;
import java.nio.file.Files;
import java.nio.file.Path;
import java.util.ArrayList;
import java.util.List;
import java.util.TreeSet;

/**
 * The edges that the document names: each stands under a title of its own in tests/edges (see Edge for how it is
 * told) and runs on new objects of its own: on NoBetweens, on the Model, and on NoBetweens again without the calls
 * that must change nothing (refused ones, questions), behind which everything must be as it is with them.
 */
public final class EdgesTest {
    private static final Dues D = new Dues("EdgesTest");
    private static final int PROMISES = 33;
    private static final int MOST_CALLS = 512;

    public static void main(String[] args) throws Exception {
        int[] edgesOf = new int[PROMISES + 1];
        TreeSet<String> titles = new TreeSet<>();
        for (Edge edge : told(Path.of(args.length > 0 ? args[0] : "tests/edges"))) {
            edgesOf[edge.promise]++;
            same(edge, "its title is its own", titles.add(edge.promise + edge.title) ? 1 : 0, 1);
            check(edge);
        }
        for (int promise = 1; promise <= PROMISES; promise++) {
            D.due(promise, "an edge is told: no", edgesOf[promise] > 0 ? 1 : 0, 1);
        }
        System.out.println("EdgesTest: " + titles.size() + " edges");
        D.close();
    }

    private static List<Edge> told(Path folder) throws Exception {
        List<Edge> edges = new ArrayList<>();
        TreeSet<Path> files = new TreeSet<>();
        try (DirectoryStream<Path> found = Files.newDirectoryStream(folder, "*.txt")) {
            found.forEach(files::add);
        }
        for (Path file : files) {
            Edge.readsInto(edges, Files.readAllLines(file));
        }
        return edges;
    }

    private static void same(Edge edge, String what, long got, long want) {
        D.due(edge.promise, "'" + edge.title + "': " + what, got, want);
    }

    private static void check(Edge edge) throws Exception {
        Caller whole = new Caller(new NoBetweens());
        run(edge, whole, "", true, true);
        List<Long> behind = state(whole);
        same(edge, "at most 512 calls", Math.max(MOST_CALLS, whole.calls), MOST_CALLS);

        Caller model = new Caller(new Model());
        run(edge, model, " (Model)", true, true);
        alike(edge, " (Model)", state(model), behind);

        Caller unrefused = new Caller(new NoBetweens());
        run(edge, unrefused, " (without what is refused)", false, true);
        alike(edge, " (without what is refused)", state(unrefused), behind);

        Caller unasked = new Caller(new NoBetweens());
        run(edge, unasked, " (without questions)", true, false);
        alike(edge, " (without questions)", state(unasked), behind);
    }

    private static void run(Edge edge, Caller to, String how, boolean refused, boolean questions) throws Exception {
        for (Edge.Step step : edge.steps) {
            if (step.isRefused() && !refused || step.isQuestion() && !questions) {
                continue;
            }
            long got = to.call(step.name, step.args);
            if (step.hasDue) {
                same(edge, step + how, got, step.due);
            }
        }
    }

    private static void alike(Edge edge, String how, List<Long> got, List<Long> want) {
        same(edge, "how much can be asked behind it" + how, got.size(), want.size());
        for (int i = 0; i < Math.min(got.size(), want.size()); i++) {
            same(edge, "answer " + i + " behind it" + how, got.get(i), want.get(i));
        }
    }

    // ---- all that can be asked of an object behind an edge, ended by what can be taken back

    private static List<Long> state(Caller x) throws Exception {
        List<Long> answers = new ArrayList<>();
        long scales = x.asks(answers, "count", 0);
        long lives = x.asks(answers, "count", 1);
        long places = x.asks(answers, "count", 2);
        for (int what = 3; what <= 6; what++) {
            x.asks(answers, "count", what);
        }
        x.asks(answers, "trace");
        for (int p = 0; p < places; p++) {
            x.asks(answers, "place", p);
        }
        for (int s = 0; s < scales; s++) {
            x.asks(answers, "scale", s, 1);
            x.asks(answers, "fits", s);
            x.asks(answers, "sure", s, 1);
        }
        for (int l = 0; l < lives; l++) {
            x.asks(answers, "orders", l, -1);
            x.asks(answers, "orders", l, 0);
            x.asks(answers, "bars", l);
            for (int s = 0; s < scales; s++) {
                x.asks(answers, "life", l, s, 1);
            }
        }
        moment(x, answers, scales, lives);
        takesBack(x, answers, scales, lives);
        return answers;
    }

    private static void moment(Caller x, List<Long> answers, long scales, long lives) throws Exception {
        x.asks(answers, "now", 0);
        x.asks(answers, "now", 4);
        x.asks(answers, "now", 5);
        for (int s = 0; s < scales; s++) {
            x.asks(answers, "scale", s, 0);
            x.asks(answers, "scale", s, 2);
            for (int l = 0; l < lives; l++) {
                x.asks(answers, "life", l, s, 0);
            }
        }
    }

    private static void takesBack(Caller x, List<Long> answers, long scales, long lives) throws Exception {
        while (x.asks(answers, "undo") >= 0) {
            moment(x, answers, scales, lives);
        }
        for (int image = 0; image <= 1; image++) {
            x.asks(answers, "back", image);
            moment(x, answers, scales, lives);
        }
        x.asks(answers, "drop");
        x.asks(answers, "burn");
        x.asks(answers, "clear");
    }

    /** Calls an object by the names of its methods, and counts. */
    private static final class Caller {
        private final Object object;
        private int calls = 0;

        Caller(Object object) {
            this.object = object;
        }

        long call(String name, int... args) throws Exception {
            calls++;
            Object[] values = new Object[args.length];
            for (int i = 0; i < args.length; i++) {
                values[i] = args[i];
            }
            return ((Number) method(name, args.length).invoke(object, values)).longValue();
        }

        long asks(List<Long> answers, String name, int... args) throws Exception {
            long answer = call(name, args);
            answers.add(answer);
            return answer;
        }

        private Method method(String name, int many) {
            for (Method m : object.getClass().getDeclaredMethods()) {
                if (m.getName().equals(name) && m.getParameterCount() == many) {
                    return m;
                }
            }
            throw new IllegalArgumentException("no call " + name + " of " + many);
        }
    }
}
