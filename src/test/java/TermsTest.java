/** The sentences of "Terms" that name a boundary, in their order, each with a test of its own. */
public final class TermsTest {
    private static final int A = PromiseClocks.ANSWER, V = PromiseClocks.VISIT, M = PromiseClocks.MEND;
    private static final String REFUSED = "throws.IllegalStateException";

    public static void main(String[] args) {
        aDayHas24Hours();
        weekdayIsTheRemainderBySeven();
        calendarAtFirst();
        fromTheFirstToTheLastHour();
        upToNotIncludingItsEnd();
        aSetOfKinds();
        aDayToADayBothIncluded();
        someContractHasKindAndDay();
        promisesAtFirst();
        clocksBeginWhenItIsOpened();
        asTheCalendarIsWhenTheyPass();
        whileItDoesNotRest();
        whileTheStageWasNotReached();
        reachingReachesThoseAhead();
        missedIfAbove();
        missedAsBothAreNow();
        stepsOfEachPromise();
        stepExactlyNotRounded();
        stepInWhateverState();
        joinedHasNoClocks();
        closedWithItsHead();
        openedAnew();
        joinedOnesStayClosed();
        workOfToday();
        creditForEachMissed();
        creditWhenClosedByMend();
        owesLessItsCredits();
        Due.end();
    }

    // ---- time and calendars

    private static void aDayHas24Hours() {
        PromiseClocks x = new PromiseClocks();
        x.setCalendar(0, 2, 0, 23);
        int[][] due = {{0, 24, 0}, {23, 24, 0}, {23, 25, 1}, {24, 25, 1}, {24, 48, 24}, {47, 48, 1}, {48, 49, 0}};
        for (int[] d : due) {
            Due.answer("T the day 1 from " + d[0] + " to " + d[1], d[2], () -> x.hours(0, d[0], d[1]));
            Due.answer("T the day 1 from " + d[0] + " to " + d[1], d[2], () -> x.hoursOneByOne(0, d[0], d[1]));
        }
    }

    private static void weekdayIsTheRemainderBySeven() {
        PromiseClocks x = new PromiseClocks();
        for (int weekday = 0; weekday < 7; weekday++) {
            x.setCalendar(1, 1 << weekday, 0, 23);
            for (int day : new int[] {0, 1, 5, 6, 7, 8, 13, 14, 993, 994, 999}) {
                int due = day % 7 == weekday ? 24 : 0;
                String what = "T day " + day + ", weekday " + weekday;
                Due.answer(what, due, () -> x.hours(1, 24 * day, 24 * day + 24));
                Due.answer(what, due, () -> x.hoursOneByOne(1, 24 * day, 24 * day + 24));
            }
        }
    }

    private static void calendarAtFirst() {
        PromiseClocks x = new PromiseClocks();
        int[][] due = {{7, 8, 0}, {8, 9, 1}, {17, 18, 1}, {18, 19, 0}, {0, 24, 10}, {96, 120, 10}, {113, 114, 1},
            {120, 144, 0}, {144, 168, 0}, {168, 192, 10}};
        for (int site = 0; site < 4; site++) {
            int of = site;
            for (int[] d : due) {
                Due.answer("T at first, from " + d[0] + " to " + d[1], d[2], () -> x.hours(of, d[0], d[1]));
            }
        }
    }

    private static void fromTheFirstToTheLastHour() {
        int[][] calendars = {{0, 0}, {0, 23}, {23, 23}, {5, 5}, {5, 6}, {22, 23}, {0, 1}};
        PromiseClocks x = new PromiseClocks();
        for (int[] c : calendars) {
            x.setCalendar(3, 64, c[0], c[1]);
            for (int hour : new int[] {0, 1, 2, 4, 5, 6, 7, 21, 22, 23}) {
                int from = 6 * 24 + hour;
                int due = hour >= c[0] && hour <= c[1] ? 1 : 0;
                String what = "T hour " + hour + ", counted from " + c[0] + " to " + c[1];
                Due.answer(what, due, () -> x.hours(3, from, from + 1));
                Due.answer(what, due, () -> x.hoursOneByOne(3, from, from + 1));
            }
        }
    }

    private static void upToNotIncludingItsEnd() {
        PromiseClocks x = Desks.allHours();
        int[][] due = {{0, 0, 0}, {0, 1, 1}, {24000, 24000, 0}, {23999, 24000, 1}, {0, 24000, 24000}, {9, 9, 0},
            {23, 24, 1}, {24, 24, 0}};
        for (int[] d : due) {
            Due.answer("T from " + d[0] + " to " + d[1], d[2], () -> x.hours(0, d[0], d[1]));
            Due.answer("T from " + d[0] + " to " + d[1], d[2], () -> x.hoursOneByOne(0, d[0], d[1]));
        }
    }

    // ---- cover

    private static void aSetOfKinds() {
        for (int kinds = 1; kinds <= 15; kinds++) {
            PromiseClocks x = new PromiseClocks();
            x.addContract(0, kinds, 0, 1000);
            for (int kind = 0; kind < 4; kind++) {
                int of = kind;
                boolean has = (kinds & 1 << kind) != 0;
                Due.answer("T kind " + kind + " of " + kinds, has, () -> x.isCovered(0, of, 500));
                Due.answer("T kind " + kind + " of " + kinds, has ? PromiseClocks.NONE : 0, () -> x.nextGap(0, of, 0));
            }
        }
    }

    private static void aDayToADayBothIncluded() {
        int[][] contracts = {{0, 0}, {0, 1}, {1, 1}, {1, 999}, {7, 8}, {999, 1000}, {1000, 1000}, {0, 1000}};
        for (int[] c : contracts) {
            PromiseClocks x = new PromiseClocks();
            x.addContract(2, 4, c[0], c[1]);
            for (int day : new int[] {0, 1, 2, 6, 7, 8, 9, 998, 999, 1000}) {
                boolean due = day >= c[0] && day <= c[1];
                String what = "T day " + day + " of " + c[0] + " to " + c[1];
                Due.answer(what, due, () -> x.isCovered(2, 2, day));
                int gap = !due ? day : c[1] < 1000 ? c[1] + 1 : PromiseClocks.NONE;
                Due.answer(what + ", next gap", gap, () -> x.nextGap(2, 2, day));
            }
        }
    }

    private static void someContractHasKindAndDay() {
        PromiseClocks x = new PromiseClocks();
        x.addContract(0, 1, 0, 4);
        x.addContract(0, 2, 5, 9);
        x.addContract(1, 1, 10, 14);
        Due.answer("T the kind of one, the day of another", false, () -> x.isCovered(0, 0, 5));
        Due.answer("T the kind of another, the day of one", false, () -> x.isCovered(0, 1, 4));
        Due.answer("T the contract of another site", false, () -> x.isCovered(0, 0, 10));
        Due.answer("T the kind and day of the second", true, () -> x.isCovered(0, 1, 5));
        x.addContract(0, 3, 4, 5);
        Due.answer("T a third one has both", true, () -> x.isCovered(0, 0, 5));
        Due.answer("T over two that touch", 6, () -> x.nextGap(0, 0, 0));
        Due.answer("T over two that overlap", 10, () -> x.nextGap(0, 1, 4));
    }

    // ---- promises and clocks

    private static void promisesAtFirst() {
        int[][] promises = {{4, 8, 16}, {2, 4, 8}, {1, 2, 4}};
        for (int gravity = 0; gravity < 3; gravity++) {
            for (int stage = A; stage <= M; stage++) {
                PromiseClocks x = Desks.allHours();
                int of = gravity;
                int to = stage;
                int hours = promises[gravity][stage];
                x.open(0, 0, gravity);
                x.pass(hours);
                Due.answer("T used up: " + hours, false, () -> x.isMissed(0, to));
                x.pass(1);
                Due.answer("T above: " + hours, true, () -> x.isMissed(0, to));
                Due.answer("T at first", hours, () -> x.setPromise(of, to, 1));
            }
        }
    }

    private static void clocksBeginWhenItIsOpened() {
        PromiseClocks x = new PromiseClocks();
        x.pass(9);
        x.open(0, 0, 0);
        Due.answer("T the hour that passed does not count", 0, () -> x.clock(0, A));
        x.pass(1);
        for (int stage = A; stage <= M; stage++) {
            int of = stage;
            Due.answer("T all three begin", 1, () -> x.clock(0, of));
        }
        x.open(0, 0, 0);
        x.pass(8);
        Due.answer("T from 9 to 17", 9, () -> x.clock(0, M));
        Due.answer("T from 10 to 17", 8, () -> x.clock(1, M));
    }

    private static void asTheCalendarIsWhenTheyPass() {
        PromiseClocks x = new PromiseClocks();
        x.open(0, 0, 0);
        x.open(1, 0, 0);
        x.pass(8);
        Due.answer("T none from 0 to 8", 0, () -> x.clock(0, M));
        x.setCalendar(0, 1, 0, 8);
        Due.answer("T not after they have passed", 0, () -> x.clock(0, M));
        x.pass(2);
        Due.answer("T one of two", 1, () -> x.clock(0, M));
        Due.answer("T the other site's calendar stays", 2, () -> x.clock(1, M));
        x.setCalendar(0, 0, 0, 0);
        Due.answer("T what passed stays counted", 1, () -> x.clock(0, M));
        x.pass(24);
        Due.answer("T none of an empty calendar", 1, () -> x.clock(0, M));
        x.setCalendar(0, 127, 0, 23);
        x.pass(1);
        Due.answer("T each of a full one", 2, () -> x.clock(0, M));
    }

    private static void whileItDoesNotRest() {
        PromiseClocks x = Desks.allHours();
        x.open(0, 0, 0);
        x.pass(1);
        x.rest(0, true);
        x.pass(1);
        x.rest(0, false);
        x.rest(0, true);
        Due.answer("T no hour passed in between", 1, () -> x.clock(0, M));
        x.pass(1);
        x.rest(0, false);
        x.pass(1);
        for (int stage = A; stage <= M; stage++) {
            int of = stage;
            Due.answer("T two of four", 2, () -> x.clock(0, of));
        }
        x.rest(0, true);
        x.reach(0, V);
        x.rest(0, false);
        x.pass(1);
        Due.answer("T reached at rest", 2, () -> x.clock(0, V));
        Due.answer("T not reached", 3, () -> x.clock(0, M));
    }

    private static void whileTheStageWasNotReached() {
        PromiseClocks x = Desks.allHours();
        x.open(0, 0, 0);
        int[][] due = {{1, 1, 1}, {1, 2, 2}, {1, 2, 3}, {1, 2, 3}};
        for (int stage = A; stage <= M + 1; stage++) {
            x.pass(1);
            for (int clock = A; clock <= M; clock++) {
                int of = clock;
                Due.answer("T " + stage + " stages reached, clock " + clock, due[stage][clock], () -> x.clock(0, of));
            }
            if (stage <= M) {
                x.reach(0, stage);
            }
        }
    }

    private static void reachingReachesThoseAhead() {
        for (int stage = A; stage <= M; stage++) {
            PromiseClocks x = Desks.allHours();
            x.open(0, 0, 0);
            int reached = stage;
            x.reach(0, stage);
            Due.answer("T state", stage == M ? PromiseClocks.CLOSED : PromiseClocks.OPEN, () -> x.stateOf(0));
            x.pass(5);
            for (int other = A; other <= M; other++) {
                int of = other;
                Due.answer("T stage " + stage + ": clock " + other, of <= reached ? 0 : 5, () -> x.clock(0, of));
            }
            if (stage < M) {
                for (int other = A; other <= stage; other++) {
                    int of = other;
                    Due.answer("T stage " + stage + " reached " + other, REFUSED, () -> x.reach(0, of));
                }
                Due.answer("T not the next one", 0, () -> {
                    x.reach(0, reached + 1);
                    return 0;
                });
            }
        }
    }

    // ---- missed promises and steps

    private static void missedIfAbove() {
        for (int promise : new int[] {1, 2, 999, 1000}) {
            for (int stage = A; stage <= M; stage++) {
                PromiseClocks x = Desks.allHours();
                int of = stage;
                x.setPromise(1, stage, promise);
                x.open(0, 0, 1);
                Due.answer("T nothing of " + promise, false, () -> x.isMissed(0, of));
                if (promise > 1) {
                    x.pass(promise - 1);
                }
                Due.answer("T one less than " + promise, false, () -> x.isMissed(0, of));
                Desks.passTo(x, promise);
                Due.answer("T all of " + promise, false, () -> x.isMissed(0, of));
                x.pass(1);
                Due.answer("T one more than " + promise, true, () -> x.isMissed(0, of));
            }
        }
    }

    private static void missedAsBothAreNow() {
        PromiseClocks x = Desks.allHours();
        x.open(0, 0, 0);
        x.open(0, 0, 0);
        x.open(0, 0, 0);
        x.pass(5);
        x.reach(0, A);
        x.join(1, 0);
        x.reach(2, M);
        for (int number = 0; number < 3; number++) {
            int of = number;
            Due.answer("T in each state", true, () -> x.isMissed(of, A));
        }
        x.setPromise(0, A, 5);
        for (int number = 0; number < 3; number++) {
            int of = number;
            Due.answer("T the promise is longer now", false, () -> x.isMissed(of, A));
        }
        x.setGravity(0, 1);
        Due.answer("T the gravity is greater now", true, () -> x.isMissed(0, A));
        Due.answer("T that of the others is not", false, () -> x.isMissed(1, A));
        Due.answer("T counted as both are now", 2, () -> x.reach(0, V));
    }

    private static void stepsOfEachPromise() {
        // a promise, and the first clocks of the steps 1, 2 and 3
        int[][] firsts = {{1, 1, 1, 2}, {2, 1, 2, 3}, {3, 2, 3, 4}, {4, 2, 3, 5}, {8, 4, 6, 9}, {16, 8, 12, 17},
            {100, 50, 75, 101}, {199, 100, 150, 200}, {200, 100, 150, 201}, {201, 101, 151, 202},
            {999, 500, 750, 1000}, {1000, 500, 750, 1001}};
        for (int[] f : firsts) {
            for (int stage = A; stage <= M; stage++) {
                PromiseClocks x = oneStageCounts(stage, f[0]);
                for (int step = 1; step <= 3; step++) {
                    int first = f[step];
                    int before = first - 1 >= f[3] ? 3 : first - 1 >= f[2] ? 2 : first - 1 >= f[1] ? 1 : 0;
                    int then = first >= f[3] ? 3 : first >= f[2] ? 2 : 1;
                    if (x.time() < first) {
                        Desks.passTo(x, first - 1);
                        Due.answer("T before " + first + " of " + f[0], before, () -> x.step(0));
                        x.pass(1);
                    }
                    Due.answer("T " + first + " of " + f[0], then, () -> x.step(0));
                }
            }
        }
    }

    /** The other stages were reached, or their promises are as long as can be: the step is that of the one. */
    private static PromiseClocks oneStageCounts(int stage, int promise) {
        PromiseClocks x = Desks.allHours();
        for (int other = A; other <= M; other++) {
            x.setPromise(0, other, other == stage ? promise : 1000);
        }
        x.open(0, 0, 0);
        if (stage > A) {
            x.reach(0, stage - 1);
        }
        return x;
    }

    private static void stepExactlyNotRounded() {
        // 49.5, 49.9, 74.5, 74.9 and 100.1 of 100: rounding up or down would tell another step
        int[][] due = {{200, 99, 0}, {1000, 499, 0}, {200, 149, 1}, {1000, 749, 1}, {1000, 1001, 3}, {3, 1, 0},
            {3, 2, 1}, {7, 5, 1}, {7, 6, 2}};
        for (int[] d : due) {
            PromiseClocks x = oneStageCounts(M, d[0]);
            Desks.passTo(x, d[1]);
            Due.answer("T " + d[1] + " of " + d[0], d[2], () -> x.step(0));
        }
    }

    private static void stepInWhateverState() {
        PromiseClocks x = Desks.allHours();
        for (int number = 0; number < 4; number++) {
            x.open(0, 0, 0);
        }
        x.pass(3);
        x.rest(1, true);
        x.join(2, 3);
        Due.answer("T open", 2, () -> x.step(0));
        Due.answer("T at rest", 2, () -> x.step(1));
        Due.answer("T joined", 2, () -> x.step(2));
        x.reach(3, M);
        Due.answer("T closed with its head", 2, () -> x.step(2));
        Due.answer("T closed by MEND", 0, () -> x.step(3));
        x.setPromise(0, A, 2);
        Due.answer("T closed, by the promise of now", 3, () -> x.step(2));
        x.openAnew(3);
        Due.answer("T opened anew: 3 hours of 16", 0, () -> x.step(3));
        x.setPromise(0, M, 6);
        Due.answer("T opened anew: 3 hours of 6", 1, () -> x.step(3));
        x.reach(0, A);
        Due.answer("T ANSWER was reached, MEND has 1", 1, () -> x.step(0));
    }

    // ---- joined, closed and opened anew

    private static void joinedHasNoClocks() {
        PromiseClocks x = Desks.allHours();
        x.open(0, 0, 0);
        x.open(0, 0, 0);
        x.pass(1);
        x.join(0, 1);
        x.pass(1);
        x.rest(1, true);
        x.pass(1);
        for (int stage = A; stage <= M; stage++) {
            int of = stage;
            Due.answer("T stands", 1, () -> x.clock(0, of));
            Due.answer("T the head's went on", 2, () -> x.clock(1, of));
        }
        x.reach(1, M);
        x.pass(1);
        Due.answer("T stands when closed", 1, () -> x.clock(0, M));
        x.openAnew(0);
        x.pass(1);
        Due.answer("T goes on when opened anew", 2, () -> x.clock(0, M));
    }

    private static void closedWithItsHead() {
        PromiseClocks x = Desks.allHours();
        for (int number = 0; number < 6; number++) {
            x.open(0, 0, 0);
        }
        x.reach(1, A);
        x.reach(2, V);
        x.join(1, 3);
        x.join(2, 3);
        x.join(5, 4);
        x.pass(2);
        x.reach(3, A);
        x.reach(3, V);
        Due.answer("T the head is open yet", PromiseClocks.JOINED, () -> x.stateOf(1));
        x.reach(3, M);
        int[] due = {PromiseClocks.OPEN, PromiseClocks.CLOSED, PromiseClocks.CLOSED, PromiseClocks.CLOSED,
            PromiseClocks.OPEN, PromiseClocks.JOINED};
        for (int number = 0; number < due.length; number++) {
            int of = number;
            Due.answer("T state of " + of, due[of], () -> x.stateOf(of));
        }
        x.openAnew(1);
        x.openAnew(2);
        Due.answer("T ANSWER was reached", REFUSED, () -> x.reach(1, A));
        Due.answer("T VISIT was not", 0, () -> x.reach(1, V));
        Due.answer("T VISIT was reached", REFUSED, () -> x.reach(2, V));
        Due.answer("T MEND was not", 0, () -> x.reach(2, M));
        Due.answer("T closed by itself now", PromiseClocks.CLOSED, () -> x.stateOf(2));
    }

    private static void openedAnew() {
        PromiseClocks x = Desks.allHours();
        x.open(0, 0, 0);
        x.pass(1);
        x.reach(0, A);
        x.pass(1);
        x.rest(0, true);
        x.reach(0, M);
        x.pass(1);
        Due.answer("T from where it was", 2, () -> x.openAnew(0));
        Due.answer("T not at rest", false, () -> x.rest(0, false));
        Due.answer("T ANSWER stays reached", REFUSED, () -> x.reach(0, A));
        Due.answer("T so does VISIT, with MEND", REFUSED, () -> x.reach(0, V));
        x.pass(1);
        int[] due = {1, 2, 3};
        for (int stage = A; stage <= M; stage++) {
            int of = stage;
            Due.answer("T clock", due[of], () -> x.clock(0, of));
        }
        Due.answer("T MEND is reached anew", 0, () -> x.reach(0, M));
        Due.answer("T closed again", PromiseClocks.CLOSED, () -> x.stateOf(0));
        Due.answer("T and opened again", 3, () -> x.openAnew(0));
        Due.answer("T an open one is not opened", REFUSED, () -> x.openAnew(0));
    }

    private static void joinedOnesStayClosed() {
        PromiseClocks x = Desks.allHours();
        for (int number = 0; number < 4; number++) {
            x.open(0, 0, 0);
        }
        x.join(0, 1);
        x.join(2, 1);
        x.reach(1, M);
        x.openAnew(1);
        Due.answer("T stays closed", PromiseClocks.CLOSED, () -> x.stateOf(0));
        Due.answer("T none is joined any more", 1, () -> x.join(3, 1));
        x.openAnew(0);
        x.reach(1, M);
        Due.answer("T opened anew, it is not joined to its head of before", PromiseClocks.OPEN, () -> x.stateOf(0));
        x.openAnew(3);
        Due.answer("T it can be a head itself", 1, () -> x.join(3, 0));
        x.openAnew(1);
        Due.answer("T the head of before can join it", 2, () -> x.join(1, 0));
        x.reach(0, M);
        Due.answer("T and is closed with it", PromiseClocks.CLOSED, () -> x.stateOf(1));
    }

    // ---- work and credits

    private static void workOfToday() {
        PromiseClocks x = new PromiseClocks();
        x.open(0, 0, 0);
        x.open(0, 1, 0);
        x.open(1, 0, 0);
        x.addContract(0, 1, 1, 2);
        x.buy(0, 10);
        int[] times = {0, 23, 24, 71, 72};
        for (int time : times) {
            Desks.passTo(x, time);
            int before = x.ahead(0);
            int used = time >= 24 && time < 72 ? 0 : 1;
            Due.answer("T ahead or covered at " + time, 0, () -> x.work(0, 1));
            Due.answer("T ahead is used if not covered at " + time, before - used, () -> x.ahead(0));
            Due.answer("T a kind that is not covered", 0, () -> x.work(1, 1));
            Due.answer("T uses one", before - used - 1, () -> x.ahead(0));
            Due.answer("T a site without contracts", 9000, () -> x.work(2, 1));
        }
    }

    private static void creditForEachMissed() {
        // hours until MEND, by a case of the gravity 0: 4, 8 and 16 are promised
        int[][] due = {{4, 0}, {5, 1}, {8, 1}, {9, 2}, {16, 2}, {17, 3}};
        for (int[] d : due) {
            PromiseClocks x = Desks.allHours();
            x.addContract(1, 8, 0, 0);
            x.open(1, 3, 0);
            x.pass(d[0]);
            Due.answer("T missed after " + d[0], d[1], () -> x.reach(0, M));
            Due.answer("T credit after " + d[0], -2500 * d[1], () -> x.owes(1));
            Due.answer("T none for another site", 0, () -> x.owes(0));
        }
        PromiseClocks y = Desks.allHours();
        y.addContract(0, 1, 0, 1000);
        y.open(0, 0, 0);
        y.pass(4);
        y.reach(0, A);
        y.pass(100);
        Due.answer("T ANSWER was kept", 2, () -> y.reach(0, M));
        Due.answer("T two credits", -5000, () -> y.owes(0));
    }

    private static void creditWhenClosedByMend() {
        PromiseClocks x = Desks.allHours();
        x.addContract(0, 3, 0, 0);
        x.open(0, 0, 2);
        x.open(0, 1, 2);
        x.open(0, 2, 2);
        x.pass(23);
        x.reach(0, A);
        x.reach(0, V);
        Due.answer("T none before MEND", 0, () -> x.owes(0));
        x.join(1, 2);
        x.reach(2, M);
        Due.answer("T none: its kind is not covered, and the joined one did not reach MEND", 0, () -> x.owes(0));
        x.openAnew(1);
        x.reach(1, M);
        Due.answer("T three: it reached MEND by itself", -7500, () -> x.owes(0));
        x.pass(1);
        x.reach(0, M);
        Due.answer("T none: its kind is not covered any more", -7500, () -> x.owes(0));
    }

    private static void owesLessItsCredits() {
        PromiseClocks x = Desks.allHours();
        x.addContract(0, 1, 0, 1000);
        x.open(0, 0, 2);
        x.open(0, 1, 2);
        Due.answer("T nothing yet", 0, () -> x.owes(0));
        x.buy(0, 1);
        Due.answer("T one hour ahead", 7000, () -> x.owes(0));
        x.pass(2);
        x.reach(0, M);
        Due.answer("T one credit", 4500, () -> x.owes(0));
        x.work(1, 2);
        Due.answer("T one hour more than bought", 13500, () -> x.owes(0));
        x.openAnew(0);
        x.pass(3);
        for (int i = 0; i < 3; i++) {
            x.reach(0, M);
            x.openAnew(0);
        }
        Due.answer("T two credits each time: below 0", 13500 - 6 * 2500, () -> x.owes(0));
    }
}
