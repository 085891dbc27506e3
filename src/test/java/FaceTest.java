import java.lang.reflect.Constructor;
import java.lang.reflect.Field;
import java.lang.reflect.Method;
import java.lang.reflect.Modifier;
import java.util.Arrays;
import java.util.Set;
import java.util.TreeSet;

/** The public face: every constant, constructor and method of the document, and no other member that others see. */
public final class FaceTest {
    private static final String SITE = " IndexOutOfBoundsException IllegalArgumentException";
    private static final String ALL = SITE + " IllegalStateException";
    private static final String[] METHODS = {
        "int setCalendar(int, int, int, int)" + SITE,
        "int addContract(int, int, int, int)" + ALL,
        "int setPromise(int, int, int) IllegalArgumentException",
        "boolean isCovered(int, int, int)" + SITE,
        "int nextGap(int, int, int)" + SITE,
        "int pass(int) IllegalArgumentException IllegalStateException",
        "int time()",
        "int hours(int, int, int)" + SITE,
        "int hoursOneByOne(int, int, int)" + SITE,
        "int open(int, int, int)" + ALL,
        "int reach(int, int)" + ALL,
        "boolean rest(int, boolean) IndexOutOfBoundsException IllegalStateException",
        "int setGravity(int, int)" + ALL,
        "int join(int, int)" + ALL,
        "int openAnew(int) IndexOutOfBoundsException IllegalStateException",
        "int stateOf(int) IndexOutOfBoundsException",
        "int clock(int, int)" + SITE,
        "boolean isMissed(int, int)" + SITE,
        "int step(int) IndexOutOfBoundsException",
        "int mostUrgent()",
        "int buy(int, int)" + SITE,
        "int work(int, int)" + ALL,
        "int ahead(int) IndexOutOfBoundsException",
        "int owes(int) IndexOutOfBoundsException"};
    private static final String[] CONSTANTS = {
        "NONE -1", "ANSWER 0", "VISIT 1", "MEND 2", "OPEN 0", "JOINED 1", "CLOSED 2"};

    public static void main(String[] args) throws IllegalAccessException {
        Class<?> face = PromiseClocks.class;
        Due.answer("public and final", Modifier.PUBLIC | Modifier.FINAL, () -> face.getModifiers());
        Due.answer("methods", new TreeSet<>(Arrays.asList(METHODS)), () -> methods(face));
        Set<String> constants = constants(face);
        Due.answer("constants", new TreeSet<>(Arrays.asList(CONSTANTS)), () -> constants);
        Due.answer("constructors", "[public PromiseClocks()]", () -> constructors(face));
        Due.end();
    }

    private static Set<String> methods(Class<?> face) {
        Set<String> seen = new TreeSet<>();
        for (Method m : face.getDeclaredMethods()) {
            if (!Modifier.isPrivate(m.getModifiers())) {
                StringBuilder text = new StringBuilder();
                if (m.getModifiers() != Modifier.PUBLIC) {
                    text.append(Modifier.toString(m.getModifiers())).append(' ');
                }
                text.append(m.getReturnType()).append(' ').append(m.getName());
                text.append(Arrays.toString(m.getParameterTypes()).replace('[', '(').replace(']', ')'));
                for (Class<?> thrown : m.getExceptionTypes()) {
                    text.append(' ').append(thrown.getSimpleName());
                }
                seen.add(text.toString());
            }
        }
        return seen;
    }

    private static Set<String> constants(Class<?> face) throws IllegalAccessException {
        Set<String> seen = new TreeSet<>();
        int constant = Modifier.PUBLIC | Modifier.STATIC | Modifier.FINAL;
        for (Field f : face.getDeclaredFields()) {
            if (f.getModifiers() == constant && f.getType() == int.class) {
                seen.add(f.getName() + " " + f.getInt(null));
            } else if (!Modifier.isPrivate(f.getModifiers())) {
                seen.add("not a constant: " + f);
            }
        }
        return seen;
    }

    private static String constructors(Class<?> face) {
        Constructor<?>[] made = face.getDeclaredConstructors();
        return Arrays.toString(made);
    }
}
