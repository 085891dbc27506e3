import java.util.ArrayList;
import java.util.List;

/** The document's words once more, as slowly as they are said: hour by hour and day by day, with sets and lists. */
final class Model {
    private static final class Thing {
        int site;
        int kind;
        int gravity;
        String state = "open";
        boolean rests;
        Thing head;
        int[] clocks = new int[3];
        boolean[] reached = new boolean[3];
    }

    private final int[][] calendars = {{31, 8, 17}, {31, 8, 17}, {31, 8, 17}, {31, 8, 17}};
    private final List<List<int[]>> contracts = new ArrayList<>();
    private final int[][] promises = {{4, 8, 16}, {2, 4, 8}, {1, 2, 4}};
    private final List<Thing> cases = new ArrayList<>();
    private final int[] hoursAhead = new int[4];
    private final int[] spent = new int[4];
    private final int[] credited = new int[4];
    private int time = 0;

    Model() {
        for (int site = 0; site < 4; site++) {
            contracts.add(new ArrayList<>());
        }
    }

    /** The name of a call of the face with its arguments; a boolean is 0 or 1. */
    Object call(String name, int a, int b, int c, int d) {
        return switch (name) {
            case "setCalendar" -> setCalendar(a, b, c, d);
            case "addContract" -> addContract(a, b, c, d);
            case "setPromise" -> setPromise(a, b, c);
            case "isCovered" -> isCovered(a, b, c);
            case "nextGap" -> nextGap(a, b, c);
            case "pass" -> pass(a);
            case "time" -> time;
            case "hours", "hoursOneByOne" -> hours(a, b, c);
            case "open" -> open(a, b, c);
            case "reach" -> reach(a, b);
            case "rest" -> rest(a, b != 0);
            case "setGravity" -> setGravity(a, b);
            case "join" -> join(a, b);
            case "openAnew" -> openAnew(a);
            case "stateOf" -> stateOf(a);
            case "clock" -> clock(a, b);
            case "isMissed" -> isMissed(a, b);
            case "step" -> step(a);
            case "mostUrgent" -> mostUrgent();
            case "buy" -> buy(a, b);
            case "work" -> work(a, b);
            case "ahead" -> ahead(a);
            case "owes" -> owes(a);
            default -> throw new UnsupportedOperationException(name);
        };
    }

    private static void exists(int index, int count) {
        if (index < 0 || index >= count) {
            throw new IndexOutOfBoundsException();
        }
    }

    private static void within(int value, int least, int most) {
        if (value < least || value > most) {
            throw new IllegalArgumentException();
        }
    }

    private static void stands(boolean allowed) {
        if (!allowed) {
            throw new IllegalStateException();
        }
    }

    private Thing thing(int number) {
        exists(number, cases.size());
        return cases.get(number);
    }

    private boolean counts(int site, int hour) {
        int[] calendar = calendars[site];
        boolean day = (calendar[0] & 1 << hour / 24 % 7) != 0;
        return day && hour % 24 >= calendar[1] && hour % 24 <= calendar[2];
    }

    private boolean covered(int site, int kind, int day) {
        for (int[] contract : contracts.get(site)) {
            if ((contract[0] & 1 << kind) != 0 && day >= contract[1] && day <= contract[2]) {
                return true;
            }
        }
        return false;
    }

    private boolean missed(Thing thing, int stage) {
        return thing.clocks[stage] > promises[thing.gravity][stage];
    }

    private Object setCalendar(int site, int days, int first, int last) {
        exists(site, 4);
        within(days, 0, 127);
        within(first, 0, 23);
        within(last, first, 23);
        int before = calendars[site][0];
        calendars[site] = new int[] {days, first, last};
        return before;
    }

    private Object addContract(int site, int kinds, int from, int to) {
        exists(site, 4);
        within(kinds, 1, 15);
        within(from, 0, 1000);
        within(to, from, 1000);
        stands(contracts.get(site).size() < 8);
        contracts.get(site).add(new int[] {kinds, from, to});
        return contracts.get(site).size();
    }

    private Object setPromise(int gravity, int stage, int hours) {
        within(gravity, 0, 2);
        within(stage, 0, 2);
        within(hours, 1, 1000);
        int before = promises[gravity][stage];
        promises[gravity][stage] = hours;
        return before;
    }

    private Object isCovered(int site, int kind, int day) {
        exists(site, 4);
        exists(kind, 4);
        within(day, 0, 1000);
        return covered(site, kind, day);
    }

    private Object nextGap(int site, int kind, int day) {
        exists(site, 4);
        exists(kind, 4);
        within(day, 0, 1000);
        int gap = day;
        while (gap <= 1000 && covered(site, kind, gap)) {
            gap++;
        }
        return gap > 1000 ? -1 : gap;
    }

    private Object pass(int hours) {
        within(hours, 1, 1000);
        stands(time + hours <= 24000);
        for (int i = 0; i < hours; i++) {
            for (Thing thing : cases) {
                for (int stage = 0; stage < 3; stage++) {
                    if (thing.state.equals("open") && !thing.rests && !thing.reached[stage]
                            && counts(thing.site, time)) {
                        thing.clocks[stage]++;
                    }
                }
            }
            time++;
        }
        return time;
    }

    private Object hours(int site, int from, int to) {
        exists(site, 4);
        within(from, 0, 24000);
        within(to, from, 24000);
        int counted = 0;
        for (int hour = from; hour < to; hour++) {
            counted += counts(site, hour) ? 1 : 0;
        }
        return counted;
    }

    private Object open(int site, int kind, int gravity) {
        exists(site, 4);
        exists(kind, 4);
        within(gravity, 0, 2);
        stands(cases.size() < 40);
        Thing thing = new Thing();
        thing.site = site;
        thing.kind = kind;
        thing.gravity = gravity;
        cases.add(thing);
        return cases.size() - 1;
    }

    private Object reach(int number, int stage) {
        Thing thing = thing(number);
        within(stage, 0, 2);
        stands(thing.state.equals("open"));
        stands(!thing.reached[stage]);
        for (int of = 0; of <= stage; of++) {
            thing.reached[of] = true;
        }
        int missed = 0;
        for (int of = 0; of < 3; of++) {
            missed += thing.reached[of] && missed(thing, of) ? 1 : 0;
        }
        if (stage == 2) {
            thing.state = "closed";
            for (Thing other : cases) {
                if (other.head == thing) {
                    other.state = "closed";
                    other.head = null;
                }
            }
            if (covered(thing.site, thing.kind, time / 24)) {
                credited[thing.site] += 2500 * missed;
            }
        }
        return missed;
    }

    private Object rest(int number, boolean rests) {
        Thing thing = thing(number);
        stands(thing.state.equals("open"));
        boolean before = thing.rests;
        thing.rests = rests;
        return before;
    }

    private Object setGravity(int number, int gravity) {
        Thing thing = thing(number);
        within(gravity, 0, 2);
        stands(thing.state.equals("open"));
        int before = thing.gravity;
        thing.gravity = gravity;
        return before;
    }

    private int joinedTo(Thing head) {
        int joined = 0;
        for (Thing thing : cases) {
            joined += thing.head == head ? 1 : 0;
        }
        return joined;
    }

    private Object join(int number, int head) {
        Thing thing = thing(number);
        Thing other = thing(head);
        within(number == head ? 1 : 0, 0, 0);
        within(thing.site, other.site, other.site);
        stands(thing.state.equals("open"));
        stands(other.state.equals("open"));
        stands(joinedTo(thing) == 0);
        thing.state = "joined";
        thing.head = other;
        return joinedTo(other);
    }

    private Object openAnew(int number) {
        Thing thing = thing(number);
        stands(thing.state.equals("closed"));
        thing.state = "open";
        thing.rests = false;
        thing.reached[2] = false;
        return thing.clocks[2];
    }

    private Object stateOf(int number) {
        return List.of("open", "joined", "closed").indexOf(thing(number).state);
    }

    private Object clock(int number, int stage) {
        Thing thing = thing(number);
        within(stage, 0, 2);
        return thing.clocks[stage];
    }

    private Object isMissed(int number, int stage) {
        Thing thing = thing(number);
        within(stage, 0, 2);
        return missed(thing, stage);
    }

    private int step(int number) {
        Thing thing = thing(number);
        int greatest = 0;
        for (int stage = 0; stage < 3; stage++) {
            long clock = thing.clocks[stage];
            long promise = promises[thing.gravity][stage];
            int step = 4 * clock < 2 * promise ? 0 : 4 * clock < 3 * promise ? 1 : clock <= promise ? 2 : 3;
            greatest = Math.max(greatest, thing.reached[stage] ? 0 : step);
        }
        return greatest;
    }

    private Object mostUrgent() {
        for (int step = 3; step >= 0; step--) {
            for (int gravity = 2; gravity >= 0; gravity--) {
                for (int number = 0; number < cases.size(); number++) {
                    Thing thing = cases.get(number);
                    if (thing.state.equals("open") && !thing.rests
                            && step(number) == step && thing.gravity == gravity) {
                        return number;
                    }
                }
            }
        }
        return -1;
    }

    private Object buy(int site, int hours) {
        exists(site, 4);
        within(hours, 1, 100);
        hoursAhead[site] += hours;
        spent[site] += 7000 * hours;
        return hoursAhead[site];
    }

    private Object work(int number, int hours) {
        Thing thing = thing(number);
        within(hours, 1, 100);
        stands(thing.state.equals("open"));
        int cents = 0;
        for (int hour = 0; hour < hours && !covered(thing.site, thing.kind, time / 24); hour++) {
            if (hoursAhead[thing.site] > 0) {
                hoursAhead[thing.site]--;
            } else {
                cents += 9000;
            }
        }
        spent[thing.site] += cents;
        return cents;
    }

    private Object ahead(int site) {
        exists(site, 4);
        return hoursAhead[site];
    }

    private Object owes(int site) {
        exists(site, 4);
        return spent[site] - credited[site];
    }
}
