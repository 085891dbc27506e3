import java.io.IOException;
import java.lang.reflect.Constructor;
import java.lang.reflect.Field;
import java.lang.reflect.Method;
import java.lang.reflect.Modifier;
import java.nio.file.Files;
import java.nio.file.Path;
import java.util.ArrayList;
import java.util.Arrays;
import java.util.List;
import java.util.Set;
import java.util.TreeSet;

/**
 * The public face: every constant, constructor and method of the document, and no other member that others see;
 * in the source its lines stand in the document's order, below the document's headings.
 */
public final class FaceTest {
    private static final String SITE = " IndexOutOfBoundsException IllegalArgumentException";
    private static final String ALL = SITE + " IllegalStateException";
    private static final String[] METHODS = {
        "int setCalendar(int, int, int, int)" + SITE,
        "int addContract(int, int, int, int)" + ALL,
        "int setPromise(int, int, int) IllegalArgumentException",
        "boolean isCovered(int, int, int)" + SITE,
        "int nextGap(int, int, int)" + SITE,
        "int pass(int) IllegalArgumentException IllegalStateException",
        "int time()",
        "int hours(int, int, int)" + SITE,
        "int hoursOneByOne(int, int, int)" + SITE,
        "int open(int, int, int)" + ALL,
        "int reach(int, int)" + ALL,
        "boolean rest(int, boolean) IndexOutOfBoundsException IllegalStateException",
        "int setGravity(int, int)" + ALL,
        "int join(int, int)" + ALL,
        "int openAnew(int) IndexOutOfBoundsException IllegalStateException",
        "int stateOf(int) IndexOutOfBoundsException",
        "int clock(int, int)" + SITE,
        "boolean isMissed(int, int)" + SITE,
        "int step(int) IndexOutOfBoundsException",
        "int mostUrgent()",
        "int buy(int, int)" + SITE,
        "int work(int, int)" + ALL,
        "int ahead(int) IndexOutOfBoundsException",
        "int owes(int) IndexOutOfBoundsException"};
    private static final String[] CONSTANTS = {
        "NONE -1", "ANSWER 0", "VISIT 1", "MEND 2", "OPEN 0", "JOINED 1", "CLOSED 2"};

    /** The document's lines with the names of all arguments, and what it says ahead of some of them. */
    private static final String LINES = """
        public static final int NONE = -1;
        public static final int ANSWER = 0, VISIT = 1, MEND = 2;
        public static final int OPEN = 0, JOINED = 1, CLOSED = 2;
        public PromiseClocks()
        // ---- sites, contracts, promises
        public int setCalendar(int site, int days, int first, int last)
        public int addContract(int site, int kinds, int from, int to)
        public int setPromise(int gravity, int stage, int hours)
        public boolean isCovered(int site, int kind, int day)
        public int nextGap(int site, int kind, int day)
        public int pass(int hours)
        public int time()
        public int hours(int site, int from, int to)
        public int hoursOneByOne(int site, int from, int to)
        // ---- cases
        public int open(int site, int kind, int gravity)
        public int reach(int number, int stage)
        public boolean rest(int number, boolean rests)
        public int setGravity(int number, int gravity)
        public int join(int number, int head)
        public int openAnew(int number)
        public int stateOf(int number)
        public int clock(int number, int stage)
        public boolean isMissed(int number, int stage)
        public int step(int number)
        public int mostUrgent()
        // ---- work and money
        public int buy(int site, int hours)
        public int work(int number, int hours)
        public int ahead(int site)
        public int owes(int site)
        """;

    public static void main(String[] args) throws IllegalAccessException, IOException {
        Class<?> face = PromiseClocks.class;
        Due.answer("public and final", Modifier.PUBLIC | Modifier.FINAL, () -> face.getModifiers());
        Due.answer("methods", new TreeSet<>(Arrays.asList(METHODS)), () -> methods(face));
        Set<String> constants = constants(face);
        Due.answer("constants", new TreeSet<>(Arrays.asList(CONSTANTS)), () -> constants);
        Due.answer("constructors", "[public PromiseClocks()]", () -> constructors(face));
        String source = Files.readString(Path.of("src/main/java/PromiseClocks.java"));
        Due.answer("lines of the source", List.of(LINES.split("\n")), () -> linesOfTheFace(source));
        Due.end();
    }

    private static Set<String> methods(Class<?> face) {
        Set<String> seen = new TreeSet<>();
        for (Method m : face.getDeclaredMethods()) {
            if (!Modifier.isPrivate(m.getModifiers())) {
                StringBuilder text = new StringBuilder();
                if (m.getModifiers() != Modifier.PUBLIC) {
                    text.append(Modifier.toString(m.getModifiers())).append(' ');
                }
                text.append(m.getReturnType()).append(' ').append(m.getName());
                text.append(Arrays.toString(m.getParameterTypes()).replace('[', '(').replace(']', ')'));
                for (Class<?> thrown : m.getExceptionTypes()) {
                    text.append(' ').append(thrown.getSimpleName());
                }
                seen.add(text.toString());
            }
        }
        return seen;
    }

    private static Set<String> constants(Class<?> face) throws IllegalAccessException {
        Set<String> seen = new TreeSet<>();
        int constant = Modifier.PUBLIC | Modifier.STATIC | Modifier.FINAL;
        for (Field f : face.getDeclaredFields()) {
            if (f.getModifiers() == constant && f.getType() == int.class) {
                seen.add(f.getName() + " " + f.getInt(null));
            } else if (!Modifier.isPrivate(f.getModifiers())) {
                seen.add("not a constant: " + f);
            }
        }
        return seen;
    }

    private static List<String> linesOfTheFace(String source) {
        List<String> seen = new ArrayList<>();
        boolean faceHasEnded = false;
        for (String line : source.lines().map(String::strip).toList()) {
            boolean heading = line.startsWith("// ----");
            // the headings of the private methods stand behind the face
            faceHasEnded |= heading && !LINES.contains(line);
            boolean member = line.startsWith("public ") && !line.startsWith("public final class");
            if (member || heading && !faceHasEnded) {
                seen.add(line.replaceAll("\\).*", ")"));
            }
        }
        return seen;
    }

    private static String constructors(Class<?> face) {
        Constructor<?>[] made = face.getDeclaredConstructors();
        return Arrays.toString(made);
    }
}
