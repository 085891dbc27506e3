import java.util.ArrayList;
import java.util.Arrays;
import java.util.List;
import java.util.function.Consumer;

/**
 * Every throws clause, sentence by sentence: for each call all ways to put together the last values inside the range
 * of each argument, the first ones outside it at both ends, and the least and greatest int, at desks on which nothing
 * is there yet, on which something of everything is, and which are full. The exception that is listed first is due,
 * and the object shows afterwards what it did before; with all arguments inside none may be thrown.
 */
public final class RefusalsTest {
    private static final int A = PromiseClocks.ANSWER, V = PromiseClocks.VISIT, M = PromiseClocks.MEND;
    private static final Class<? extends Exception> NOTHING = null;
    private static final List<Class<? extends Exception>> LISTED = List.of(Due.NO_SUCH, Due.ARGUMENT, Due.STATE);

    /** A call of the face; v are its arguments. */
    private interface Made {
        Object call(PromiseClocks x, int[] v);
    }

    /** Values of one argument, or of several that hang together, and what is thrown for them. */
    private record Values(Class<? extends Exception> due, int... values) {
    }

    /** What is there before the call, and what is thrown for that. */
    private record Desk(String name, Class<? extends Exception> due, Consumer<PromiseClocks> before) {
    }

    private static final Desk EMPTY = new Desk("empty", NOTHING, Desks::empty);
    private static final Desk MIXED = new Desk("mixed", NOTHING, Desks::mixed);
    private static final Desk FULL = new Desk("full", NOTHING, Desks::full);
    private static final Desk TOO_FULL = new Desk("full", Due.STATE, FULL.before);
    private static final List<Desk> ALL = List.of(EMPTY, MIXED, FULL);

    private static final List<Values> SITE = range(Due.NO_SUCH, 0, 3);
    private static final List<Values> KIND = range(Due.NO_SUCH, 0, 3);
    private static final List<Values> STAGE = range(Due.ARGUMENT, A, M);
    private static final List<Values> GRAVITY = range(Due.ARGUMENT, 0, 2);
    private static final List<Values> DAY = range(Due.ARGUMENT, 0, 1000);

    public static void main(String[] args) {
        setCalendar();
        addContract();
        setPromise();
        cover();
        pass();
        hours();
        open();
        reach();
        rest();
        setGravity();
        join();
        openAnew();
        looks();
        buy();
        work();
        moneyLooks();
        Due.end();
    }

    // ---- how the ways are put together

    private static List<Values> range(Class<? extends Exception> due, int least, int most) {
        List<Values> values = new ArrayList<>();
        values.add(new Values(NOTHING, least));
        values.add(new Values(NOTHING, most));
        for (int outside : new int[] {least - 1, most + 1, Integer.MIN_VALUE, Integer.MAX_VALUE}) {
            values.add(new Values(due, outside));
        }
        return values;
    }

    /** Two arguments from least to most, the second one not below the first one. */
    private static List<Values> span(int least, int most) {
        List<Values> values = new ArrayList<>();
        int[] begins = {least - 1, least, most, most + 1, Integer.MIN_VALUE, Integer.MAX_VALUE};
        for (int begin : begins) {
            boolean inside = begin >= least && begin <= most;
            for (int end : new int[] {begin - 1, begin, least - 1, most, most + 1, Integer.MIN_VALUE,
                Integer.MAX_VALUE}) {
                boolean fine = inside && end >= begin && end <= most;
                values.add(new Values(fine ? NOTHING : Due.ARGUMENT, begin, end));
            }
        }
        return values;
    }

    /** The numbers of the cases of a desk; some are in a state in which the call is refused. */
    private static List<Values> numbers(int count, int[] fine, int[]... refused) {
        List<Values> values = new ArrayList<>();
        for (int number : fine) {
            values.add(new Values(NOTHING, number));
        }
        for (int[] numbers : refused) {
            for (int number : numbers) {
                values.add(new Values(Due.STATE, number));
            }
        }
        for (int outside : new int[] {-1, count, 39, 40, Integer.MIN_VALUE, Integer.MAX_VALUE}) {
            if (outside < 0 || outside >= count) {
                values.add(new Values(Due.NO_SUCH, outside));
            }
        }
        return values;
    }

    private static List<Values> noNumbers() {
        return numbers(0, new int[0], new int[0]);
    }

    private static List<Values> openNumbers(Desk desk) {
        return desk == EMPTY ? withZero() : desk == MIXED
            ? numbers(Desks.MIXED_COUNT, Desks.MIXED_OPEN, Desks.MIXED_JOINED, Desks.MIXED_CLOSED)
            : numbers(Desks.FULL_COUNT, Desks.FULL_OPEN, Desks.FULL_JOINED, Desks.FULL_CLOSED);
    }

    private static List<Values> closedNumbers(Desk desk) {
        return desk == EMPTY ? withZero() : desk == MIXED
            ? numbers(Desks.MIXED_COUNT, Desks.MIXED_CLOSED, Desks.MIXED_JOINED, Desks.MIXED_OPEN)
            : numbers(Desks.FULL_COUNT, Desks.FULL_CLOSED, Desks.FULL_JOINED, Desks.FULL_OPEN);
    }

    private static List<Values> allNumbers(Desk desk) {
        List<Values> values = new ArrayList<>();
        for (Values number : openNumbers(desk)) {
            values.add(new Values(number.due == Due.STATE ? NOTHING : number.due, number.values));
        }
        return values;
    }

    /** Without a case there is not even the number 0. */
    private static List<Values> withZero() {
        List<Values> values = noNumbers();
        values.add(new Values(Due.NO_SUCH, 0));
        return values;
    }

    private static Class<? extends Exception> listedFirst(Class<? extends Exception> a, Class<? extends Exception> b) {
        if (a == NOTHING || b == NOTHING) {
            return a == NOTHING ? b : a;
        }
        return LISTED.indexOf(a) <= LISTED.indexOf(b) ? a : b;
    }

    @SafeVarargs
    private static void check(String what, Desk desk, Made made, List<Values>... arguments) {
        putTogether(what, desk, desk.due, made, new int[0], 0, arguments);
    }

    private static void putTogether(String what, Desk desk, Class<? extends Exception> due, Made made, int[] values,
            int next, List<Values>[] arguments) {
        if (next == arguments.length) {
            checkOne(what + Arrays.toString(values) + ", " + desk.name + " desk", desk, due, made, values);
            return;
        }
        for (Values more : arguments[next]) {
            int[] longer = Arrays.copyOf(values, values.length + more.values.length);
            System.arraycopy(more.values, 0, longer, values.length, more.values.length);
            putTogether(what, desk, listedFirst(due, more.due), made, longer, next + 1, arguments);
        }
    }

    private static void checkOne(String what, Desk desk, Class<? extends Exception> due, Made made, int[] values) {
        if (due == NOTHING) {
            PromiseClocks x = new PromiseClocks();
            desk.before.accept(x);
            Due.answer(what, true, () -> {
                made.call(x, values);
                return true;
            });
        } else {
            Due.refusal(what, due, desk.before, x -> made.call(x, values));
        }
    }

    // ---- sites, contracts, promises

    private static void setCalendar() {
        for (Desk desk : ALL) {
            check("2 setCalendar", desk, (x, v) -> x.setCalendar(v[0], v[1], v[2], v[3]),
                SITE, range(Due.ARGUMENT, 0, 127), span(0, 23));
        }
    }

    private static void addContract() {
        Desk seven = new Desk("almost full", NOTHING, Desks::sevenContracts);
        for (Desk desk : List.of(EMPTY, MIXED, seven, TOO_FULL)) {
            check("3 addContract", desk, (x, v) -> x.addContract(v[0], v[1], v[2], v[3]),
                SITE, range(Due.ARGUMENT, 1, 15), span(0, 1000));
        }
        Consumer<PromiseClocks> oneIsFull = x -> {
            for (int i = 0; i < 8; i++) {
                x.addContract(2, 1, 0, 0);
            }
        };
        Due.refusal("3 the site has 8", Due.STATE, oneIsFull, x -> x.addContract(2, 15, 0, 1000));
        for (int site : new int[] {0, 1, 3}) {
            PromiseClocks x = new PromiseClocks();
            oneIsFull.accept(x);
            Due.answer("3 another site has none", 1, () -> x.addContract(site, 15, 0, 1000));
        }
    }

    private static void setPromise() {
        for (Desk desk : ALL) {
            check("4 setPromise", desk, (x, v) -> x.setPromise(v[0], v[1], v[2]),
                GRAVITY, STAGE, range(Due.ARGUMENT, 1, 1000));
        }
    }

    private static void cover() {
        for (Desk desk : ALL) {
            check("5 isCovered", desk, (x, v) -> x.isCovered(v[0], v[1], v[2]), SITE, KIND, DAY);
            check("6 nextGap", desk, (x, v) -> x.nextGap(v[0], v[1], v[2]), SITE, KIND, DAY);
        }
    }

    private static void pass() {
        for (Desk desk : List.of(EMPTY, MIXED, TOO_FULL)) {
            check("7 pass", desk, (x, v) -> x.pass(v[0]), range(Due.ARGUMENT, 1, 1000));
        }
        int[][] lastPasses = {{23000, 1000}, {23001, 999}, {23500, 500}, {23998, 2}, {23999, 1}};
        for (int[] last : lastPasses) {
            Consumer<PromiseClocks> before = x -> {
                Desks.mixed(x);
                Desks.passTo(x, last[0]);
            };
            PromiseClocks x = new PromiseClocks();
            before.accept(x);
            Due.answer("7 from " + last[0] + " to 24000", 24000, () -> x.pass(last[1]));
            Due.answer("8 time", 24000, () -> x.time());
            if (last[1] < 1000) {
                Due.refusal("7 from " + last[0] + " to 24001", Due.STATE, before, y -> y.pass(last[1] + 1));
                Due.refusal("7 far above 24000", Due.STATE, before, y -> y.pass(1000));
            }
            Due.refusal("7 hours are looked at first", Due.ARGUMENT, before, y -> y.pass(1001));
        }
    }

    private static void hours() {
        for (Desk desk : ALL) {
            check("9 hours", desk, (x, v) -> x.hours(v[0], v[1], v[2]), SITE, span(0, 24000));
            check("10 hoursOneByOne", desk, (x, v) -> x.hoursOneByOne(v[0], v[1], v[2]), SITE, span(0, 24000));
        }
    }

    // ---- cases

    private static void open() {
        Desk thirtyNine = new Desk("almost full", NOTHING, Desks::thirtyNineCases);
        for (Desk desk : List.of(EMPTY, MIXED, thirtyNine, TOO_FULL)) {
            check("11 open", desk, (x, v) -> x.open(v[0], v[1], v[2]), SITE, KIND, GRAVITY);
        }
    }

    private static void reach() {
        Made made = (x, v) -> x.reach(v[0], v[1]);
        check("12 reach", EMPTY, made, openNumbers(EMPTY), STAGE);
        check("12 reach", FULL, made, openNumbers(FULL), STAGE);
        // how many stages each case of the mixed desk reached
        int[][] reached = {{0, 1}, {3, 0}, {4, 2}, {5, 0}, {8, 2}};
        for (int[] r : reached) {
            List<Values> stages = new ArrayList<>(STAGE.subList(2, STAGE.size()));
            for (int stage = A; stage <= M; stage++) {
                stages.add(new Values(stage < r[1] ? Due.STATE : NOTHING, stage));
            }
            check("12 reach", MIXED, made, List.of(new Values(NOTHING, r[0])), stages);
        }
        check("12 reach", MIXED, made,
            numbers(Desks.MIXED_COUNT, new int[0], Desks.MIXED_JOINED, Desks.MIXED_CLOSED), STAGE);
    }

    private static void rest() {
        for (Desk desk : ALL) {
            check("13 rest", desk, (x, v) -> x.rest(v[0], true), openNumbers(desk));
            check("13 rest no more", desk, (x, v) -> x.rest(v[0], false), openNumbers(desk));
        }
    }

    private static void setGravity() {
        for (Desk desk : ALL) {
            check("14 setGravity", desk, (x, v) -> x.setGravity(v[0], v[1]), openNumbers(desk), GRAVITY);
        }
    }

    private static void join() {
        Made made = (x, v) -> x.join(v[0], v[1]);
        check("15 join", EMPTY, made, openNumbers(EMPTY), openNumbers(EMPTY));
        check("15 join", MIXED, made, pairs(allNumbers(MIXED), 3, 7));
        check("15 join", FULL, made, List.of(
            new Values(NOTHING, 0, 38), new Values(NOTHING, 32, 38), new Values(NOTHING, 39, 33),
            new Values(Due.STATE, 38, 0), new Values(Due.STATE, 34, 38), new Values(Due.STATE, 0, 34),
            new Values(Due.STATE, 39, 37), new Values(Due.STATE, 35, 39),
            new Values(Due.ARGUMENT, 39, 39), new Values(Due.ARGUMENT, 39, 38), new Values(Due.ARGUMENT, 34, 35),
            new Values(Due.NO_SUCH, 39, 40), new Values(Due.NO_SUCH, 40, 39), new Values(Due.NO_SUCH, -1, 0),
            new Values(Due.NO_SUCH, 0, -1), new Values(Due.NO_SUCH, 40, 40), new Values(Due.NO_SUCH, 34, 40)));
    }

    /** All pairs of cases of the mixed desk; its case 0 is a head. */
    private static List<Values> pairs(List<Values> numbers, int... ofSiteOne) {
        List<Values> pairs = new ArrayList<>();
        for (Values one : numbers) {
            for (Values two : numbers) {
                int number = one.values[0];
                int head = two.values[0];
                Class<? extends Exception> due = listedFirst(one.due, two.due);
                boolean sameSite = isAmong(number, ofSiteOne) == isAmong(head, ofSiteOne);
                if (number == head || !sameSite) {
                    due = listedFirst(due, Due.ARGUMENT);
                }
                boolean bothOpen = isAmong(number, Desks.MIXED_OPEN) && isAmong(head, Desks.MIXED_OPEN);
                if (!bothOpen || number == 0) {
                    due = listedFirst(due, Due.STATE);
                }
                pairs.add(new Values(due, number, head));
            }
        }
        return pairs;
    }

    private static boolean isAmong(int number, int[] numbers) {
        return Arrays.stream(numbers).anyMatch(n -> n == number);
    }

    private static void openAnew() {
        for (Desk desk : ALL) {
            check("16 openAnew", desk, (x, v) -> x.openAnew(v[0]), closedNumbers(desk));
        }
    }

    private static void looks() {
        for (Desk desk : ALL) {
            check("17 stateOf", desk, (x, v) -> x.stateOf(v[0]), allNumbers(desk));
            check("18 clock", desk, (x, v) -> x.clock(v[0], v[1]), allNumbers(desk), STAGE);
            check("19 isMissed", desk, (x, v) -> x.isMissed(v[0], v[1]), allNumbers(desk), STAGE);
            check("20 step", desk, (x, v) -> x.step(v[0]), allNumbers(desk));
        }
    }

    // ---- work and money

    private static void buy() {
        for (Desk desk : ALL) {
            check("22 buy", desk, (x, v) -> x.buy(v[0], v[1]), SITE, range(Due.ARGUMENT, 1, 100));
        }
    }

    private static void work() {
        for (Desk desk : ALL) {
            check("23 work", desk, (x, v) -> x.work(v[0], v[1]), openNumbers(desk), range(Due.ARGUMENT, 1, 100));
        }
    }

    private static void moneyLooks() {
        for (Desk desk : ALL) {
            check("24 ahead", desk, (x, v) -> x.ahead(v[0]), SITE);
            check("25 owes", desk, (x, v) -> x.owes(v[0]), SITE);
        }
    }
}
