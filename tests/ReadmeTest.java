import java.lang.reflect.Method;
import java.nio.file.Files;
import java.nio.file.Path;
import java.util.regex.Matcher;
import java.util.regex.Pattern;

/** README.md: the text and the calls of its example, each line "x.call(..); // answer: ..", answer what it says. */
public final class ReadmeTest {
    private static final Dues D = new Dues("ReadmeTest");
    private static final Pattern TEXT = Pattern.compile("String text = \"(.*)\";");
    private static final Pattern CALL = Pattern.compile("(?m)^x\\.(\\w+)\\((.*)\\); *// (-?\\d+):");

    public static void main(String[] args) throws Exception {
        String readme = Files.readString(Path.of("README.md"));
        Matcher text = TEXT.matcher(readme);
        D.due(4, "a text is told: no", text.find() ? 1 : 0, 1);
        NoBetweens x = new NoBetweens();
        Dues.types(x, text.group(1));
        Matcher call = CALL.matcher(readme);
        int calls = 0;
        while (call.find()) {
            D.due(0, call.group(1) + "(" + call.group(2) + ")", answer(x, call.group(1), call.group(2)),
                Long.parseLong(call.group(3)));
            calls++;
        }
        D.due(0, "calls are told: no", calls > 0 ? 1 : 0, 1);
        D.close();
    }

    private static long answer(NoBetweens x, String name, String told) throws Exception {
        String[] words = told.isEmpty() ? new String[0] : told.split(", ");
        Class<?>[] types = new Class<?>[words.length];
        Object[] values = new Object[words.length];
        for (int i = 0; i < words.length; i++) {
            types[i] = int.class;
            values[i] = Integer.parseInt(words[i]);
        }
        Method m = NoBetweens.class.getMethod(name, types);
        return ((Number) m.invoke(x, values)).longValue();
    }
}
