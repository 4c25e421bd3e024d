import java.lang.reflect.Constructor;
import java.lang.reflect.Field;
import java.lang.reflect.Member;
import java.lang.reflect.Method;
import java.lang.reflect.Modifier;
import java.nio.file.Files;
import java.nio.file.Path;
import java.util.Map;
import java.util.Set;
import java.util.TreeMap;
import java.util.TreeSet;
import java.util.regex.Matcher;
import java.util.regex.Pattern;

/** The face of the class, and what of LANGUAGE.md a look at the file and its classes can tell. */
public final class FaceTest {
    private static final Dues D = new Dues("FaceTest");
    private static final String[] CALLS = {
        "int type(int)", "int clear()", "int land()", "int scale(int,int)", "int life(int,int,int)", "int end(int,int)",
        "int place(int)", "int passes(int)", "int changes(int,int,int)", "int law(int,int,int)", "int undo()",
        "int now(int)", "int behind(int,int,int)", "int first(int,int)", "int freed(int,int,int)", "int bestJump(int,int)",
        "int plans(int,int)", "int drop()", "int orders(int,int)", "int bars(int)", "int trip(int,int,int,int)",
        "int parts(int,int,int)", "int books(int,int,int)", "int burn()", "int fits(int)", "int sure(int,int)",
        "int clash()", "int rate(int,int)", "int keep(int)", "int back(int)", "int count(int)", "long trace()"};
    private static final String[] CONSTANTS = {"BAD", "STATE", "FULL", "NONE", "NO"};

    public static void main(String[] args) throws Exception {
        face();
        classes();
        String file = Files.readString(Path.of(args.length > 0 ? args[0] : "src/main/java/NoBetweens.java"));
        words(file);
        lengthsAndDepths(file);
        D.close();
    }

    private static String told(Method m) {
        StringBuilder b = new StringBuilder(m.getReturnType().getName()).append(' ').append(m.getName()).append('(');
        for (Class<?> c : m.getParameterTypes()) {
            b.append(b.charAt(b.length() - 1) == '(' ? "" : ",").append(c.getName());
        }
        return b.append(')').toString();
    }

    private static void one(String what, boolean holds) {
        D.due(1, what, holds ? 1 : 0, 1);
    }

    private static boolean isPrivate(Member m) {
        return Modifier.isPrivate(m.getModifiers()) || m.isSynthetic();
    }

    private static void face() {
        Class<?> c = NoBetweens.class;
        one("public and final", Modifier.isPublic(c.getModifiers()) && Modifier.isFinal(c.getModifiers()));
        Set<String> found = new TreeSet<>();
        for (Method m : c.getDeclaredMethods()) {
            if (!isPrivate(m)) {
                one(m + " is public, no static one", Modifier.isPublic(m.getModifiers()) && !Modifier.isStatic(m.getModifiers()));
                found.add(told(m));
            }
        }
        one("the calls", found.equals(new TreeSet<>(Set.of(CALLS))));
        Set<String> constants = new TreeSet<>();
        for (Field f : c.getDeclaredFields()) {
            if (!isPrivate(f)) {
                one(f + " is a public constant", f.toString().startsWith("public static final int "));
                constants.add(f.getName());
            }
        }
        one("the constants", constants.equals(new TreeSet<>(Set.of(CONSTANTS))));
        Constructor<?>[] makers = c.getDeclaredConstructors();
        one("one public constructor", makers.length == 1 && Modifier.isPublic(makers[0].getModifiers())
            && makers[0].getParameterCount() == 0);
    }

    private static void classes() {
        Set<String> names = new TreeSet<>();
        for (String call : CALLS) {
            names.add(call.substring(call.indexOf(' ') + 1, call.indexOf('(')));
        }
        checkMembers(NoBetweens.class, names);
        one("twelve classes at most", NoBetweens.class.getDeclaredClasses().length < 12);
        for (Class<?> c : NoBetweens.class.getDeclaredClasses()) {
            one(c + " is static, not public",
                Modifier.isStatic(c.getModifiers()) && (c.getModifiers() & (Modifier.PUBLIC | Modifier.PROTECTED)) == 0);
            one(c + " holds no class", c.getDeclaredClasses().length == 0);
            checkMembers(c, names);
        }
    }

    private static void checkMembers(Class<?> c, Set<String> publicNames) {
        int fields = 0;
        for (Field f : c.getDeclaredFields()) {
            if (Modifier.isStatic(f.getModifiers())) {
                one(f + " is final", Modifier.isFinal(f.getModifiers()));
            } else {
                fields++;
            }
        }
        one(c + " has twenty fields at most", fields <= 20);
        for (Method m : c.getDeclaredMethods()) {
            one(m + " bears no public name", Modifier.isPublic(m.getModifiers()) || !publicNames.contains(m.getName()));
            one(m + " has seven parameters at most", m.getParameterCount() <= 7);
        }
    }

    private static void words(String file) {
        String code = file.replaceAll("(?s)/\\*.*?\\*/", " ").replaceAll("//[^\n]*", " ");
        Matcher m = Pattern.compile("\\b(throws?|try|catch|synchronized|assert|import|package|float|double|native|volatile)\\b"
            + "|->|::|System\\.(?!arraycopy)|\\b(equals|hashCode|toString)\\b").matcher(code);
        while (m.find()) {
            one("'" + m.group() + "' does not stand in the file", false);
        }
        one("the file has no sign above 127", code.chars().allMatch(sign -> sign < 128));
        // Nothing is made by a call: whatever is made stands in a field's line or a constructor.
        Matcher made = Pattern.compile("\\bnew\\b").matcher(code);
        int count = 0;
        while (made.find()) {
            count++;
        }
        one("new stands where fields are, and twice in a constructor", count == fieldsMade(code) + 2);
    }

    private static int fieldsMade(String code) {
        Matcher m = Pattern.compile("(private )?final [A-Za-z\\[\\]]+ [A-Za-z]+ = new ").matcher(code);
        int count = 0;
        while (m.find()) {
            count++;
        }
        return count;
    }

    private static final Pattern METHOD = Pattern.compile(
        "(?m)^( +)(?:public |private )?(?:static )?(?:int|long|boolean|void) (\\w+)\\([^)]*\\) \\{\n((?s:.*?))^\\1\\}$");
    private static final int MOST_LINES = 60, MOST_DEEP = 8;

    /** Methods of one name are taken as one, which can only make the calls look deeper than they are. */
    private static void lengthsAndDepths(String file) {
        Map<String, Set<String>> callsOf = new TreeMap<>();
        Matcher m = METHOD.matcher(file);
        while (m.find()) {
            one(m.group(2) + " is short", m.group(3).split("\n").length <= MOST_LINES);
            Set<String> calls = callsOf.computeIfAbsent(m.group(2), name -> new TreeSet<>());
            Matcher call = Pattern.compile("\\b(\\w+)\\(").matcher(m.group(3));
            while (call.find()) {
                calls.add(call.group(1));
            }
        }
        for (String call : CALLS) {
            String name = call.substring(call.indexOf(' ') + 1, call.indexOf('('));
            one(name + " is found in the file", callsOf.containsKey(name));
            one(name + " calls eight deep at most, and nothing that calls itself", depth(callsOf, name, 1) <= MOST_DEEP);
        }
    }

    private static int depth(Map<String, Set<String>> callsOf, String name, int deep) {
        int most = deep;
        if (deep <= MOST_DEEP) {
            for (String called : callsOf.getOrDefault(name, Set.of())) {
                boolean isOurs = callsOf.containsKey(called);
                most = Math.max(most, isOurs ? depth(callsOf, called, deep + 1) : deep);
            }
        }
        return most;
    }
}
