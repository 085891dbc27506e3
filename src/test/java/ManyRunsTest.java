/**
 * Promises 1 to 25: long mixed runs of calls, right and wrong ones, each answer against the Model's.
 * What a run calls follows from its number alone, so a run that fails fails again.
 */
public final class ManyRunsTest {
    private static final int RUNS = 600;
    private static final int CALLS = 512;
    private static final String[] CALLED = {"setCalendar", "addContract", "setPromise", "isCovered", "nextGap",
        "pass", "pass", "pass", "time", "hours", "hoursOneByOne", "open", "open", "reach", "reach", "reach", "rest",
        "rest", "setGravity", "join", "join", "openAnew", "openAnew", "stateOf", "clock", "clock", "isMissed", "step",
        "step", "mostUrgent", "mostUrgent", "buy", "work", "work", "ahead", "owes", "owes"};

    private long seed;

    private ManyRunsTest(int run) {
        seed = run * 7919L + 12345L;
    }

    public static void main(String[] args) {
        for (int run = 0; run < RUNS; run++) {
            new ManyRunsTest(run).go(run);
        }
        Due.end();
    }

    private void go(int run) {
        PromiseClocks x = new PromiseClocks();
        Model model = new Model();
        // some runs call what is called at a few cases, some fill the desk
        int width = run % 3 == 0 ? 3 : run % 3 == 1 ? 8 : 41;
        for (int i = 0; i < CALLS; i++) {
            String name = width == 41 && i < 40 ? "open" : CALLED[below(CALLED.length)];
            int[] v = arguments(name, width, run % 2 == 0 ? 30 : 1000);
            Object due = Due.outcome(() -> model.call(name, v[0], v[1], v[2], v[3]));
            String what = "run " + run + ", call " + i + ": " + name + "(" + v[0] + ", " + v[1] + ", " + v[2] + ", "
                + v[3] + ")";
            Due.answer(what, due, () -> call(x, name, v[0], v[1], v[2], v[3]));
        }
    }

    private int below(int bound) {
        seed = seed * 6364136223846793005L + 1442695040888963407L;
        return (int) ((seed >>> 33) % bound);
    }

    /** From least to most, but one time in some forty just outside or far away. */
    private int from(int least, int most) {
        int odd = below(160);
        return switch (odd) {
            case 0 -> least - 1;
            case 1 -> most + 1;
            case 2 -> Integer.MIN_VALUE;
            case 3 -> Integer.MAX_VALUE;
            case 4, 5, 6 -> least;
            case 7, 8, 9 -> most;
            default -> least + below(most - least + 1);
        };
    }

    private int upFrom(int begin, int most) {
        return begin >= 0 && begin <= most ? from(begin, most) : from(0, most);
    }

    private int[] arguments(String name, int width, int hours) {
        int[] v = new int[4];
        switch (name) {
            case "setCalendar" -> {
                v[0] = from(0, 3);
                v[1] = below(3) == 0 ? 127 : from(0, 127);
                v[2] = from(0, 23);
                v[3] = upFrom(v[2], 23);
            }
            case "addContract" -> {
                v[0] = from(0, 3);
                v[1] = from(1, 15);
                v[2] = below(2) == 0 ? from(0, 1000) : from(0, 20);
                v[3] = upFrom(v[2], below(2) == 0 ? 1000 : 60);
            }
            case "setPromise" -> {
                v[0] = from(0, 2);
                v[1] = from(0, 2);
                v[2] = below(2) == 0 ? from(1, 1000) : from(1, 40);
            }
            case "isCovered", "nextGap" -> {
                v[0] = from(0, 3);
                v[1] = from(0, 3);
                v[2] = below(2) == 0 ? from(0, 1000) : from(0, 60);
            }
            case "pass" -> v[0] = from(1, below(2) == 0 ? hours : 6);
            case "hours", "hoursOneByOne" -> {
                v[0] = from(0, 3);
                v[1] = from(0, 24000);
                v[2] = upFrom(v[1], 24000);
            }
            case "open" -> {
                v[0] = from(0, below(2) == 0 ? 3 : 0);
                v[1] = from(0, 3);
                v[2] = from(0, 2);
            }
            case "rest" -> {
                v[0] = below(width);
                v[1] = below(3) == 0 ? 1 : 0;
            }
            case "reach", "setGravity", "clock", "isMissed" -> {
                v[0] = number(width);
                v[1] = from(0, 2);
            }
            case "join" -> {
                v[0] = number(width);
                v[1] = number(width);
            }
            case "openAnew", "stateOf", "step" -> v[0] = number(width);
            case "work" -> {
                v[0] = number(width);
                v[1] = from(1, below(2) == 0 ? 100 : 5);
            }
            case "buy" -> {
                v[0] = from(0, 3);
                v[1] = from(1, below(2) == 0 ? 100 : 5);
            }
            default -> v[0] = from(0, 3);
        }
        return v;
    }

    private int number(int width) {
        return from(0, width - 1);
    }

    private static Object call(PromiseClocks x, String name, int a, int b, int c, int d) {
        return switch (name) {
            case "setCalendar" -> x.setCalendar(a, b, c, d);
            case "addContract" -> x.addContract(a, b, c, d);
            case "setPromise" -> x.setPromise(a, b, c);
            case "isCovered" -> x.isCovered(a, b, c);
            case "nextGap" -> x.nextGap(a, b, c);
            case "pass" -> x.pass(a);
            case "time" -> x.time();
            case "hours" -> x.hours(a, b, c);
            case "hoursOneByOne" -> x.hoursOneByOne(a, b, c);
            case "open" -> x.open(a, b, c);
            case "reach" -> x.reach(a, b);
            case "rest" -> x.rest(a, b != 0);
            case "setGravity" -> x.setGravity(a, b);
            case "join" -> x.join(a, b);
            case "openAnew" -> x.openAnew(a);
            case "stateOf" -> x.stateOf(a);
            case "clock" -> x.clock(a, b);
            case "isMissed" -> x.isMissed(a, b);
            case "step" -> x.step(a);
            case "mostUrgent" -> x.mostUrgent();
            case "buy" -> x.buy(a, b);
            case "work" -> x.work(a, b);
            case "ahead" -> x.ahead(a);
            case "owes" -> x.owes(a);
            default -> throw new UnsupportedOperationException(name);
        };
    }
}
