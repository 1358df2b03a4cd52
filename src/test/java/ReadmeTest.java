import java.io.IOException;
import java.lang.reflect.InvocationTargetException;
import java.lang.reflect.Method;
import java.nio.file.Files;
import java.nio.file.Path;
import java.util.Set;
import java.util.TreeSet;
import java.util.regex.Matcher;
import java.util.regex.Pattern;

/** The calls that README.md shows, in their order on one object; the class's file is the first argument. */
public final class ReadmeTest {
    private static final Pattern CALL = Pattern.compile("x\\.(\\w+)\\(([^)]*)\\);\\s*// (.+)");
    private static final Pattern ANSWER = Pattern.compile("(?:throws )?(-?\\d+|\\w+Exception)(?::.*)?");

    private static final Due due = new Due();

    public static void main(String[] args) throws IOException {
        String readme = Files.readString(projectOf(Path.of(args[0])).resolve("README.md"));
        BagViews x = new BagViews();
        Set<String> shown = new TreeSet<>();
        boolean inside = false;
        for (String line : readme.split("\n")) {
            if (line.startsWith("```")) {
                inside = line.equals("```java");
            } else if (inside && !line.equals("BagViews x = new BagViews();")) {
                shown.add(call(x, line));
            }
        }
        due.same("the methods that README.md shows", namesOfFace().toString(), shown.toString());
        due.holds("README.md says how to run the tests", readme.contains("\n.ci/run\n"));
        due.end();
    }

    /** From src/main/java/BagViews.java four steps up. */
    private static Path projectOf(Path file) {
        return file.toAbsolutePath().getParent().getParent().getParent().getParent();
    }

    private static Set<String> namesOfFace() {
        Set<String> names = new TreeSet<>();
        for (Method method : BagViews.class.getMethods()) {
            if (method.getDeclaringClass() == BagViews.class) {
                names.add(method.getName());
            }
        }
        return names;
    }

    private static String call(BagViews x, String line) {
        Matcher parts = CALL.matcher(line);
        if (!parts.matches()) {
            due.same("a line of README.md", "a call with its answer", line);
            return line;
        }
        Method method = methodOf(parts.group(1));
        if (method == null) {
            due.same("a call in README.md", "a method of the class", line);
            return line;
        }
        due.same(line, wantedBy(parts.group(3), method), said(x, method, parts.group(2).split(", ")));
        return method.getName();
    }

    private static Method methodOf(String name) {
        for (Method method : BagViews.class.getMethods()) {
            if (method.getName().equals(name)) {
                return method;
            }
        }
        return null;
    }

    /** A call that answers nothing has only words behind it, unless it throws. */
    private static String wantedBy(String comment, Method method) {
        if (method.getReturnType() == void.class && !comment.startsWith("throws ")) {
            return "nothing";
        }
        Matcher answer = ANSWER.matcher(comment);
        return answer.matches() ? answer.group(1) : "an answer that README.md tells";
    }

    private static String said(BagViews x, Method method, String[] words) {
        if (words.length != method.getParameterCount()) {
            return words.length + " arguments";
        }
        Object[] arguments = new Object[words.length];
        for (int i = 0; i < words.length; i++) {
            arguments[i] = argument(words[i], method.getParameterTypes()[i]);
        }
        try {
            Object answer = method.invoke(x, arguments);
            return answer == null ? "nothing" : answer.toString();
        } catch (InvocationTargetException e) {
            return e.getCause().getClass().getSimpleName();
        } catch (IllegalAccessException e) {
            return "no access";
        }
    }

    private static Object argument(String word, Class<?> type) {
        return type == boolean.class ? (Object) Boolean.valueOf(word) : (Object) Integer.valueOf(word);
    }
}
