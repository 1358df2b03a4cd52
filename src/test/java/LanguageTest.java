import java.io.IOException;
import java.lang.management.ManagementFactory;
import java.lang.reflect.Constructor;
import java.lang.reflect.Field;
import java.lang.reflect.Method;
import java.lang.reflect.Modifier;
import java.nio.file.Files;
import java.nio.file.Path;
import java.util.Set;
import java.util.TreeSet;

/** What can be seen of LANGUAGE.md's rules and of the face; the class's file is the first argument. */
public final class LanguageTest {
    private static final String INDEX = "IndexOutOfBoundsException";
    private static final String STATE = "IllegalStateException";
    private static final String ARGUMENT = "IllegalArgumentException";
    private static final String BOUND = "UnsupportedOperationException";

    private static final String[] FACE = {
        "void table(int,int) " + INDEX + " " + STATE + " " + ARGUMENT,
        "void select(int,int,int,int,int,boolean) " + INDEX + " " + STATE + " " + ARGUMENT + " " + BOUND,
        "void columns(int,int,int,int,int,int) " + INDEX + " " + STATE + " " + ARGUMENT + " " + BOUND,
        "void join(int,int,int,int,int) " + INDEX + " " + STATE + " " + ARGUMENT + " " + BOUND,
        "void both(int,int,int,boolean) " + INDEX + " " + STATE + " " + ARGUMENT + " " + BOUND,
        "void once(int,int) " + INDEX + " " + STATE + " " + BOUND,
        "void group(int,int,int,int,int) " + INDEX + " " + STATE + " " + ARGUMENT + " " + BOUND,
        "void drop(int) " + INDEX + " " + STATE,
        "int put(int,int,int,int,int,int) " + INDEX + " " + STATE + " " + ARGUMENT + " " + BOUND,
        "int fill(int,int,int,int,int,int) " + INDEX + " " + STATE + " " + ARGUMENT + " " + BOUND,
        "int width(int) " + INDEX,
        "int rows(int) " + INDEX,
        "long size(int) " + INDEX,
        "int times(int,int,int,int,int) " + INDEX,
        "int cell(int,int,int) " + INDEX,
        "int changed(int) " + INDEX,
        "int count(int) " + ARGUMENT,
    };

    private static final String[] NOT_IN_THE_FILE = {
        "import ", "package ", "->", "::", "catch", "finally", "synchronized", "assert ", "Exact", "@Override",
        "hashCode", "toString", "System.out", "Random", "nanoTime", "currentTimeMillis", "protected ", "while (true)",
        "for (;;)", "static {"};

    private static final Due due = new Due();

    public static void main(String[] args) throws IOException {
        face();
        classes();
        source(Files.readString(Path.of(args[0])));
        room();
        due.end();
    }

    private static void face() {
        Set<String> want = new TreeSet<>(Set.of(FACE));
        Set<String> is = new TreeSet<>();
        Set<String> names = new TreeSet<>();
        for (Method method : BagViews.class.getDeclaredMethods()) {
            if (!Modifier.isPrivate(method.getModifiers())) {
                is.add(line(method));
                names.add(method.getName());
                due.holds(method + " is public and no more", method.getModifiers() == Modifier.PUBLIC);
            }
        }
        due.same("the face", String.join("\n", want), String.join("\n", is));
        for (Method method : BagViews.class.getDeclaredMethods()) {
            boolean hidden = Modifier.isPrivate(method.getModifiers());
            due.holds("rule 1: " + method, !hidden || !names.contains(method.getName()));
        }
        due.holds("public final", BagViews.class.getModifiers() == (Modifier.PUBLIC | Modifier.FINAL));
        Constructor<?>[] constructors = BagViews.class.getDeclaredConstructors();
        due.holds("one public constructor", constructors.length == 1 && constructors[0].getParameterCount() == 0
            && constructors[0].getModifiers() == Modifier.PUBLIC);
        for (Field field : BagViews.class.getDeclaredFields()) {
            due.holds("rule 1: " + field, Modifier.isPrivate(field.getModifiers()) || field.getName().equals("NONE"));
        }
    }

    private static String line(Method method) {
        StringBuilder text = new StringBuilder();
        text.append(method.getReturnType()).append(' ').append(method.getName()).append('(');
        for (int i = 0; i < method.getParameterCount(); i++) {
            text.append(i == 0 ? "" : ",").append(method.getParameterTypes()[i]);
        }
        text.append(')');
        for (Class<?> thrown : method.getExceptionTypes()) {
            text.append(' ').append(thrown.getSimpleName());
        }
        return text.toString();
    }

    private static void classes() {
        Class<?>[] inside = BagViews.class.getDeclaredClasses();
        due.holds("rule 11: classes", inside.length < 12);
        for (Class<?> one : inside) {
            int is = one.getModifiers();
            due.holds("rule 1: " + one, Modifier.isStatic(is) && !Modifier.isPublic(is) && !Modifier.isProtected(is));
            members(one);
        }
        members(BagViews.class);
    }

    private static void members(Class<?> one) {
        int fields = 0;
        for (Field field : one.getDeclaredFields()) {
            boolean isStatic = Modifier.isStatic(field.getModifiers());
            due.holds("rule 5: " + field, !isStatic || Modifier.isFinal(field.getModifiers()));
            fields += isStatic ? 0 : 1;
        }
        due.holds("rule 11: fields of " + one, fields <= 20);
        for (Method method : one.getDeclaredMethods()) {
            due.holds("rule 11: " + method, method.getParameterCount() <= 7);
            due.holds("rule 2: " + method, !method.isSynthetic());
        }
    }

    private static void source(String text) {
        for (String word : NOT_IN_THE_FILE) {
            due.holds("no '" + word + "' in the file", !text.contains(word));
        }
        int since = 0;
        for (String line : text.split("\n")) {
            boolean ends = line.equals("    }") || line.equals("        }");
            since = ends ? 0 : since + 1;
            due.holds("rule 11: some sixty lines, at " + line, since < 60);
        }
        due.holds("rule 3: characters", text.chars().allMatch(c -> c < 256));
    }

    /** The one room: a run's 512 dearest calls may make next to nothing. */
    private static void room() {
        com.sun.management.ThreadMXBean threads =
            (com.sun.management.ThreadMXBean) ManagementFactory.getThreadMXBean();
        BagViews x = new BagViews();
        x.table(0, 2);
        x.fill(0, 0, 1, 0, 0, 20);
        for (int v = 1; v < 8; v++) {
            x.columns(v, v - 1, 0, 1, BagViews.NONE, BagViews.NONE);
        }
        x.put(0, 0, 0, 0, 0, 1);
        long thread = Thread.currentThread().getId();
        long before = threads.getThreadAllocatedBytes(thread);
        for (int i = 0; i < 500; i++) {
            x.put(0, i % 20, 0, 0, 0, 1);
        }
        long made = threads.getThreadAllocatedBytes(thread) - before;
        due.holds("500 puts make " + made + " bytes", made < 50000);
    }

    private LanguageTest() {
    }
}
