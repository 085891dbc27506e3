import java.util.List;

/**
 * All that an object shows of itself, as texts. Some of it shows only when the object is changed,
 * so each view uses up an object of its own, in fewer than 400 calls.
 */
final class Shown {
    interface View {
        void note(StringBuilder text, PromiseClocks x);
    }

    static final List<View> VIEWS = List.of(Shown::sites, Shown::cover, Shown::cases, Shown::goingOn, Shown::ends);

    private static final int SITES = 4;
    private static final int KINDS = 4;
    private static final int STAGES = 3;
    private static final int CASES = 40;
    private static final int[] DAYS = {0, 1, 2, 5, 10, 999, 1000};

    private Shown() {
    }

    private static void note(StringBuilder text, Due.Call call) {
        text.append(Due.outcome(call)).append(' ');
    }

    /** How many cases there are, found without making one. */
    private static int count(PromiseClocks x) {
        int count = 0;
        while (count < CASES && exists(x, count)) {
            count++;
        }
        return count;
    }

    private static boolean exists(PromiseClocks x, int number) {
        return Due.outcome(() -> x.stateOf(number)) instanceof Integer;
    }

    /** The time, the calendars, the promises and the money. */
    private static void sites(StringBuilder text, PromiseClocks x) {
        note(text, () -> x.time());
        for (int site = 0; site < SITES; site++) {
            int of = site;
            note(text, () -> x.ahead(of));
            note(text, () -> x.owes(of));
            for (int hour = 0; hour < 24; hour++) {
                int from = 48 + hour;
                note(text, () -> x.hours(of, from, from + 1));
            }
            for (int day = 0; day < 7; day++) {
                int from = 24 * day;
                note(text, () -> x.hoursOneByOne(of, from, from + 24));
            }
            note(text, () -> x.setCalendar(of, 127, 0, 23));
        }
        for (int place = 0; place < 9; place++) {
            int of = place;
            note(text, () -> x.setPromise(of / 3, of % 3, 1));
        }
    }

    /** The contracts, and how many more each site can have. */
    private static void cover(StringBuilder text, PromiseClocks x) {
        for (int site = 0; site < SITES; site++) {
            int of = site;
            for (int kind = 0; kind < KINDS; kind++) {
                int thing = kind;
                for (int day : DAYS) {
                    note(text, () -> x.isCovered(of, thing, day));
                }
                note(text, () -> x.nextGap(of, thing, 0));
                note(text, () -> x.nextGap(of, thing, 500));
            }
            note(text, () -> x.addContract(of, 1, 1000, 1000));
        }
    }

    private static void cases(StringBuilder text, PromiseClocks x) {
        note(text, () -> x.mostUrgent());
        int count = count(x);
        for (int number = 0; number < count; number++) {
            int of = number;
            note(text, () -> x.stateOf(of));
            note(text, () -> x.step(of));
            for (int stage = 0; stage < STAGES; stage++) {
                int to = stage;
                note(text, () -> x.clock(of, to));
                note(text, () -> x.isMissed(of, to));
            }
        }
        note(text, () -> x.open(0, 0, 0));
    }

    /** Which clocks go on, which cases rest, and their gravities. */
    private static void goingOn(StringBuilder text, PromiseClocks x) {
        for (int site = 0; site < SITES; site++) {
            x.setCalendar(site, 127, 0, 23);
        }
        note(text, () -> x.pass(10));
        int count = count(x);
        for (int number = 0; number < count; number++) {
            int of = number;
            for (int stage = 0; stage < STAGES; stage++) {
                int to = stage;
                note(text, () -> x.clock(of, to));
            }
            note(text, () -> x.setGravity(of, 0));
            note(text, () -> x.rest(of, true));
        }
    }

    /** Which stages were reached, who is joined to whom, and whose kind and site a case has. */
    private static void ends(StringBuilder text, PromiseClocks x) {
        int count = Math.min(count(x), 10);
        for (int number = 0; number < count; number++) {
            int of = number;
            note(text, () -> x.work(of, 1));
            note(text, () -> x.reach(of, 0));
            note(text, () -> x.reach(of, 1));
            note(text, () -> x.reach(of, 2));
            for (int site = 0; site < SITES; site++) {
                int at = site;
                note(text, () -> x.owes(at));
            }
            for (int other = 0; other < count; other++) {
                int to = other;
                note(text, () -> x.stateOf(to));
            }
        }
        for (int number = 0; number < count; number++) {
            int of = number;
            note(text, () -> x.openAnew(of));
            note(text, () -> x.reach(of, 0));
            note(text, () -> x.reach(of, 1));
        }
    }
}
