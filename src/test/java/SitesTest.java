/** Promises 1 to 10: a new object, calendars, contracts, promises, cover, time and hours. */
public final class SitesTest {
    public static void main(String[] args) {
        newObject();
        setCalendar();
        addContract();
        setPromise();
        isCovered();
        nextGap();
        passAndTime();
        hours();
        Due.end();
    }

    private static void newObject() {
        PromiseClocks x = new PromiseClocks();
        Due.answer("1 time", 0, () -> x.time());
        Due.answer("1 no case", Due.outcome(() -> x.stateOf(-1)), () -> x.stateOf(0));
        Due.answer("1 none urgent", PromiseClocks.NONE, () -> x.mostUrgent());
        for (int site = 0; site < 4; site++) {
            int of = site;
            Due.answer("1 ahead", 0, () -> x.ahead(of));
            Due.answer("1 owes", 0, () -> x.owes(of));
            for (int kind = 0; kind < 4; kind++) {
                int thing = kind;
                Due.answer("1 no contract", 0, () -> x.nextGap(of, thing, 0));
            }
            Due.answer("1 hours of a day", 10, () -> x.hours(of, 0, 24));
            Due.answer("1 hours of a week", 50, () -> x.hours(of, 0, 168));
            Due.answer("1 calendar", 31, () -> x.setCalendar(of, 31, 8, 17));
        }
        int[] promises = {4, 8, 16, 2, 4, 8, 1, 2, 4};
        for (int place = 0; place < 9; place++) {
            int of = place;
            Due.answer("1 promise " + of, promises[of], () -> x.setPromise(of / 3, of % 3, 1000));
        }
        PromiseClocks other = new PromiseClocks();
        Due.answer("1 objects share nothing", 4, () -> other.setPromise(0, 0, 4));
    }

    private static void setCalendar() {
        PromiseClocks x = new PromiseClocks();
        Due.answer("2 first", 31, () -> x.setCalendar(0, 127, 0, 23));
        Due.answer("2 second", 127, () -> x.setCalendar(0, 0, 0, 0));
        Due.answer("2 third", 0, () -> x.setCalendar(0, 1, 23, 23));
        Due.answer("2 one hour a week", 1, () -> x.hours(0, 0, 168));
        Due.answer("2 another site", 50, () -> x.hours(1, 0, 168));
        Due.answer("2 another site's days", 31, () -> x.setCalendar(3, 64, 5, 6));
        Due.answer("2 the last weekday", 2, () -> x.hours(3, 144, 168));

        PromiseClocks y = new PromiseClocks();
        y.open(0, 0, 0);
        y.setCalendar(0, 127, 0, 23);
        y.pass(6);
        y.setCalendar(0, 0, 0, 23);
        Due.answer("2 passed hours stay", 6, () -> y.clock(0, 2));
        y.pass(6);
        Due.answer("2 none passes", 6, () -> y.clock(0, 2));
        y.setCalendar(0, 127, 13, 13);
        y.pass(6);
        Due.answer("2 one hour passes", 7, () -> y.clock(0, 2));
    }

    private static void addContract() {
        PromiseClocks x = new PromiseClocks();
        for (int i = 1; i <= 8; i++) {
            int due = i;
            Due.answer("3 contract " + i, due, () -> x.addContract(0, due, due - 1, due - 1));
        }
        Due.answer("3 the eighth counts", true, () -> x.isCovered(0, 3, 7));
        Due.answer("3 the first counts", true, () -> x.isCovered(0, 0, 0));
        Due.answer("3 the ninth", "throws.IllegalStateException", () -> x.addContract(0, 15, 0, 1000));
        Due.answer("3 another site", 1, () -> x.addContract(3, 15, 1000, 1000));
        Due.answer("3 its last day", true, () -> x.isCovered(3, 3, 1000));
        Due.answer("3 the day before", false, () -> x.isCovered(3, 3, 999));
    }

    private static void setPromise() {
        PromiseClocks x = new PromiseClocks();
        Due.answer("4 before", 8, () -> x.setPromise(1, PromiseClocks.MEND, 1));
        Due.answer("4 least", 1, () -> x.setPromise(1, PromiseClocks.MEND, 1000));
        Due.answer("4 most", 1000, () -> x.setPromise(1, PromiseClocks.MEND, 8));
        Due.answer("4 others stay", 4, () -> x.setPromise(1, PromiseClocks.VISIT, 4));
        Due.answer("4 others stay", 1, () -> x.setPromise(2, PromiseClocks.ANSWER, 1));

        PromiseClocks y = new PromiseClocks();
        y.setCalendar(0, 127, 0, 23);
        y.open(0, 0, 1);
        y.pass(3);
        Due.answer("4 missed", true, () -> y.isMissed(0, 0));
        y.setPromise(1, 0, 3);
        Due.answer("4 not missed any more", false, () -> y.isMissed(0, 0));
        y.setPromise(0, 0, 1);
        Due.answer("4 another gravity", false, () -> y.isMissed(0, 0));
        y.setPromise(1, 1, 2);
        Due.answer("4 step", 3, () -> y.step(0));
    }

    private static PromiseClocks withGaps() {
        PromiseClocks x = new PromiseClocks();
        x.addContract(1, 0b0101, 2, 4);
        x.addContract(1, 0b0100, 5, 9);
        x.addContract(1, 0b0001, 4, 6);
        x.addContract(1, 0b0001, 8, 8);
        x.addContract(1, 0b1000, 0, 1000);
        return x;
    }

    private static void isCovered() {
        PromiseClocks x = withGaps();
        String[] due = {"0011111010", "0000000000", "0011111111", "1111111111"};
        for (int kind = 0; kind < 4; kind++) {
            for (int day = 0; day < 10; day++) {
                int of = kind;
                int on = day;
                boolean covered = due[of].charAt(on) == '1';
                Due.answer("5 kind " + kind + " on day " + day, covered, () -> x.isCovered(1, of, on));
            }
        }
        Due.answer("5 after the last day", false, () -> x.isCovered(1, 2, 10));
        Due.answer("5 day 1000", true, () -> x.isCovered(1, 3, 1000));
        Due.answer("5 another site", false, () -> x.isCovered(0, 3, 5));
    }

    private static void nextGap() {
        PromiseClocks x = withGaps();
        int[][] due = {{0, 0, 0}, {0, 2, 7}, {0, 6, 7}, {0, 7, 7}, {0, 8, 9}, {2, 2, 10}, {1, 0, 0}, {1, 1000, 1000},
            {3, 0, PromiseClocks.NONE}, {3, 1000, PromiseClocks.NONE}};
        for (int[] d : due) {
            Due.answer("6 kind " + d[0] + " from day " + d[1], d[2], () -> x.nextGap(1, d[0], d[1]));
        }
        PromiseClocks y = new PromiseClocks();
        y.addContract(0, 1, 0, 999);
        Due.answer("6 the last day of all", 1000, () -> y.nextGap(0, 0, 0));
    }

    private static void almostAtTheEnd(PromiseClocks x) {
        x.open(0, 0, 0);
        for (int i = 0; i < 23; i++) {
            x.pass(1000);
        }
        x.pass(989);
    }

    private static void passAndTime() {
        PromiseClocks x = new PromiseClocks();
        Due.answer("7 least", 1, () -> x.pass(1));
        Due.answer("7 most", 1001, () -> x.pass(1000));
        Due.answer("8 time", 1001, () -> x.time());
        PromiseClocks last = new PromiseClocks();
        almostAtTheEnd(last);
        Due.answer("7 up to 24000", 24000, () -> last.pass(11));
        Due.answer("7 all of it counted", 7150, () -> last.clock(0, 2));
        Due.answer("7 no hour more", "throws.IllegalStateException", () -> last.pass(1));
        Due.answer("8 time of the end", 24000, () -> last.time());
    }

    private static int countOneByOne(int days, int first, int last, int from, int to) {
        int counted = 0;
        for (int hour = from; hour < to; hour++) {
            boolean inSet = (days & 1 << hour / 24 % 7) != 0;
            counted += inSet && hour % 24 >= first && hour % 24 <= last ? 1 : 0;
        }
        return counted;
    }

    private static void hours() {
        int[][] calendars = {{31, 8, 17}, {127, 0, 23}, {0, 0, 23}, {64, 23, 23}, {1, 0, 0}, {85, 5, 6}, {96, 1, 22}};
        int[] ends = {0, 1, 7, 8, 9, 17, 18, 23, 24, 25, 120, 143, 144, 145, 167, 168, 169, 23999, 24000};
        for (int[] c : calendars) {
            for (int from : ends) {
                PromiseClocks asked = new PromiseClocks();
                asked.setCalendar(2, c[0], c[1], c[2]);
                for (int to : ends) {
                    if (from <= to) {
                        int due = countOneByOne(c[0], c[1], c[2], from, to);
                        Due.answer("9 from " + from + " to " + to, due, () -> asked.hours(2, from, to));
                        Due.answer("10 from " + from + " to " + to, due, () -> asked.hoursOneByOne(2, from, to));
                    }
                }
            }
        }
        PromiseClocks y = new PromiseClocks();
        y.pass(30);
        Due.answer("9 the time does not matter", 10, () -> y.hours(0, 0, 24));
        Due.answer("10 the time does not matter", 10, () -> y.hoursOneByOne(0, 0, 24));
    }
}
