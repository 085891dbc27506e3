/** What can be there before a call: nothing yet, something of everything, and all there can be. */
final class Desks {
    private static final int A = PromiseClocks.ANSWER, V = PromiseClocks.VISIT, M = PromiseClocks.MEND;

    private Desks() {
    }

    static void empty(PromiseClocks x) {
    }

    static void countAllHours(PromiseClocks x) {
        for (int site = 0; site < 4; site++) {
            x.setCalendar(site, 127, 0, 23);
        }
    }

    /** An object whose sites count every hour. */
    static PromiseClocks allHours() {
        PromiseClocks x = new PromiseClocks();
        countAllHours(x);
        return x;
    }

    /**
     * Nine cases, those of site 0 but for 3 and 7 of site 1: 0 is open, reached ANSWER and is the head of 1, which is
     * joined; 2 is closed, and so is 6, which was joined to it; 3 is open; 4 is open, reached VISIT and rests; 5 is
     * open and reached nothing; 7 is closed; 8 is open, opened anew, and only MEND is not reached.
     */
    static void mixed(PromiseClocks x) {
        countAllHours(x);
        x.setCalendar(2, 96, 5, 20);
        x.setPromise(1, M, 9);
        x.addContract(0, 0b0101, 0, 1);
        x.addContract(1, 0b1000, 3, 900);
        x.buy(0, 10);
        x.buy(1, 1);
        int[] kinds = {0, 1, 2, 3, 0, 1, 2, 3, 0};
        for (int number = 0; number < kinds.length; number++) {
            x.open(number == 3 || number == 7 ? 1 : 0, kinds[number], number % 3);
        }
        x.pass(3);
        x.reach(0, A);
        x.join(1, 0);
        x.join(6, 2);
        x.reach(4, V);
        x.pass(2);
        x.reach(2, M);
        x.reach(7, M);
        x.reach(8, M);
        x.openAnew(8);
        x.rest(4, true);
        x.work(5, 3);
        x.pass(3);
    }

    static final int[] MIXED_OPEN = {0, 3, 4, 5, 8};
    static final int[] MIXED_JOINED = {1};
    static final int[] MIXED_CLOSED = {2, 6, 7};
    static final int MIXED_COUNT = 9;

    static void contracts(PromiseClocks x, int count) {
        for (int site = 0; site < 4; site++) {
            for (int i = 0; i < count; i++) {
                x.addContract(site, 1 << i % 4, i, 2 * i);
            }
        }
    }

    static void sevenContracts(PromiseClocks x) {
        contracts(x, 7);
    }

    static void cases(PromiseClocks x, int count) {
        for (int number = 0; number < count; number++) {
            x.open(number % 2, number % 4, number % 3);
        }
    }

    static void thirtyNineCases(PromiseClocks x) {
        cases(x, 39);
    }

    static void passTo(PromiseClocks x, int time) {
        int now = x.time();
        while (now < time) {
            now = x.pass(Math.min(1000, time - now));
        }
    }

    /** 8 contracts of each site, 40 cases, the time at 24000. 34 and 36 are joined to 38, 35 and 37 are closed. */
    static void full(PromiseClocks x) {
        contracts(x, 8);
        cases(x, 40);
        passTo(x, 24000);
        x.join(34, 38);
        x.join(36, 38);
        x.reach(35, M);
        x.reach(37, M);
    }

    static final int[] FULL_OPEN = {0, 33, 38, 39};
    static final int[] FULL_JOINED = {34, 36};
    static final int[] FULL_CLOSED = {35, 37};
    static final int FULL_COUNT = 40;
}
