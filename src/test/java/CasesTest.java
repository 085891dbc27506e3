/** Promises 11 to 21: cases, their stages and clocks, gravity, joining, opening anew, steps and urgency. */
public final class CasesTest {
    private static final int A = PromiseClocks.ANSWER, V = PromiseClocks.VISIT, M = PromiseClocks.MEND;

    public static void main(String[] args) {
        open();
        reach();
        reachCountsMissed();
        rest();
        setGravity();
        join();
        headCloses();
        openAnew();
        clock();
        isMissed();
        steps();
        mostUrgent();
        mostUrgentOfThree();
        stateOf();
        Due.end();
    }

    private static void fullDesk(PromiseClocks x) {
        for (int i = 0; i < 40; i++) {
            x.open(0, 0, 0);
        }
    }

    private static void open() {
        PromiseClocks x = Desks.allHours();
        x.pass(50);
        for (int i = 0; i < 40; i++) {
            int due = i;
            Due.answer("11 number", due, () -> x.open(due % 4, due / 4 % 4, due % 3));
        }
        Due.answer("11 the 41st", "throws.IllegalStateException", () -> x.open(0, 0, 0));
        Due.answer("11 is open", PromiseClocks.OPEN, () -> x.stateOf(39));
        Due.answer("11 clock begins", 0, () -> x.clock(39, A));
        Due.answer("11 does not rest", false, () -> x.rest(39, false));
        Due.answer("11 gravity", 38 % 3, () -> x.setGravity(38, 0));
        x.pass(2);
        for (int stage = A; stage <= M; stage++) {
            int of = stage;
            Due.answer("11 clocks run", 2, () -> x.clock(39, of));
        }
        for (int number = 0; number < 40; number++) {
            x.reach(number, M);
        }
        Due.answer("11 closed ones count", "throws.IllegalStateException", () -> x.open(0, 0, 0));
    }

    private static void reach() {
        PromiseClocks x = Desks.allHours();
        x.open(0, 0, 0);
        x.pass(3);
        Due.answer("12 VISIT", 0, () -> x.reach(0, V));
        Due.answer("12 ANSWER was reached as well", "throws.IllegalStateException", () -> x.reach(0, A));
        Due.answer("12 VISIT again", "throws.IllegalStateException", () -> x.reach(0, V));
        Due.answer("12 still open", PromiseClocks.OPEN, () -> x.stateOf(0));
        x.pass(4);
        Due.answer("12 ANSWER stands", 3, () -> x.clock(0, A));
        Due.answer("12 VISIT stands", 3, () -> x.clock(0, V));
        Due.answer("12 MEND goes on", 7, () -> x.clock(0, M));
        Due.answer("12 MEND", 0, () -> x.reach(0, M));
        Due.answer("12 closed", PromiseClocks.CLOSED, () -> x.stateOf(0));
        x.pass(5);
        Due.answer("12 MEND stands", 7, () -> x.clock(0, M));
        for (int stage = A; stage <= M; stage++) {
            int of = stage;
            Due.answer("12 closed ones reach nothing", "throws.IllegalStateException", () -> x.reach(0, of));
        }
    }

    private static void reachCountsMissed() {
        PromiseClocks x = Desks.allHours();
        x.open(0, 0, 0);
        x.pass(4);
        Due.answer("12 a promise just kept", 0, () -> x.reach(0, A));
        x.open(0, 0, 0);
        x.pass(5);
        Due.answer("12 ANSWER missed", 1, () -> x.reach(1, A));
        x.pass(12);
        Due.answer("12 VISIT and MEND not yet reached do not count", 2, () -> x.reach(1, V));
        Due.answer("12 ANSWER of the first was kept", 2, () -> x.reach(0, M));
        Due.answer("12 all", 3, () -> x.reach(1, M));
        x.open(0, 0, 0);
        x.pass(4);
        x.reach(2, A);
        x.setGravity(2, 2);
        Due.answer("12 by the gravity of now", 2, () -> x.reach(2, V));
        x.open(0, 0, 2);
        x.pass(100);
        Due.answer("12 only ANSWER is reached", 1, () -> x.reach(3, A));
        x.open(0, 0, 0);
        x.rest(4, true);
        Due.answer("12 at rest", 0, () -> x.reach(4, M));
    }

    private static void rest() {
        PromiseClocks x = Desks.allHours();
        x.open(0, 0, 0);
        x.open(0, 0, 0);
        x.pass(1);
        Due.answer("13 did not rest", false, () -> x.rest(0, true));
        Due.answer("13 did rest", true, () -> x.rest(0, true));
        x.pass(10);
        for (int stage = A; stage <= M; stage++) {
            int of = stage;
            Due.answer("13 clock stands", 1, () -> x.clock(0, of));
            Due.answer("13 the other's goes on", 11, () -> x.clock(1, of));
        }
        Due.answer("13 goes on", true, () -> x.rest(0, false));
        Due.answer("13 went on", false, () -> x.rest(0, false));
        x.pass(2);
        Due.answer("13 clock", 3, () -> x.clock(0, M));
        Due.answer("13 state", PromiseClocks.OPEN, () -> x.stateOf(0));
    }

    private static void setGravity() {
        PromiseClocks x = Desks.allHours();
        x.open(0, 0, 0);
        x.pass(4);
        Due.answer("14 not missed", false, () -> x.isMissed(0, A));
        Due.answer("14 before", 0, () -> x.setGravity(0, 1));
        Due.answer("14 missed", true, () -> x.isMissed(0, A));
        Due.answer("14 VISIT not", false, () -> x.isMissed(0, V));
        Due.answer("14 before", 1, () -> x.setGravity(0, 2));
        Due.answer("14 VISIT missed", true, () -> x.isMissed(0, V));
        Due.answer("14 MEND not", false, () -> x.isMissed(0, M));
        Due.answer("14 clock stays", 4, () -> x.clock(0, A));
        x.rest(0, true);
        Due.answer("14 at rest", 2, () -> x.setGravity(0, 0));
        Due.answer("14 step by the gravity of now", 2, () -> x.step(0));
    }

    private static void join() {
        PromiseClocks x = Desks.allHours();
        for (int i = 0; i < 4; i++) {
            x.open(2, i, 0);
        }
        x.pass(2);
        Due.answer("15 first", 1, () -> x.join(3, 1));
        Due.answer("15 second", 2, () -> x.join(0, 1));
        Due.answer("15 joined", PromiseClocks.JOINED, () -> x.stateOf(3));
        Due.answer("15 head is open", PromiseClocks.OPEN, () -> x.stateOf(1));
        x.pass(2);
        Due.answer("15 clock stands", 2, () -> x.clock(3, A));
        Due.answer("15 head's clock goes on", 4, () -> x.clock(1, A));
        Due.answer("15 a head can't join", "throws.IllegalStateException", () -> x.join(1, 2));
        Due.answer("15 a joined one is no head", "throws.IllegalStateException", () -> x.join(2, 3));
        Due.answer("15 a joined one can't join", "throws.IllegalStateException", () -> x.join(3, 2));
        x.rest(2, true);
        x.rest(1, true);
        Due.answer("15 at rest", 3, () -> x.join(2, 1));
    }

    private static void headCloses() {
        PromiseClocks x = Desks.allHours();
        for (int i = 0; i < 4; i++) {
            x.open(0, 0, 0);
        }
        x.pass(6);
        x.join(1, 0);
        x.reach(2, A);
        x.join(2, 0);
        x.reach(0, V);
        Due.answer("15 VISIT of the head closes nothing", PromiseClocks.JOINED, () -> x.stateOf(1));
        x.reach(0, M);
        Due.answer("15 closed with the head", PromiseClocks.CLOSED, () -> x.stateOf(1));
        Due.answer("15 the other too", PromiseClocks.CLOSED, () -> x.stateOf(2));
        Due.answer("15 not one that was not joined", PromiseClocks.OPEN, () -> x.stateOf(3));
        Due.answer("15 no stage reached: step", 3, () -> x.step(1));
        x.openAnew(0);
        Due.answer("16 they stay closed", PromiseClocks.CLOSED, () -> x.stateOf(1));
        Due.answer("15 none is joined any more", 1, () -> x.join(0, 3));
        x.openAnew(1);
        Due.answer("15 joined again, to another one", 2, () -> x.join(1, 3));
        x.openAnew(2);
        Due.answer("15 ANSWER stays reached", "throws.IllegalStateException", () -> x.reach(2, A));
        Due.answer("15 VISIT was not", 1, () -> x.reach(2, V));
    }

    private static void openAnew() {
        PromiseClocks x = Desks.allHours();
        x.open(0, 0, 0);
        x.open(0, 0, 0);
        x.pass(3);
        x.reach(0, A);
        x.pass(4);
        x.rest(0, true);
        x.reach(0, M);
        x.pass(9);
        Due.answer("16 clock of MEND", 7, () -> x.openAnew(0));
        Due.answer("16 open", PromiseClocks.OPEN, () -> x.stateOf(0));
        Due.answer("16 not at rest", false, () -> x.rest(0, false));
        x.pass(1);
        Due.answer("16 ANSWER stands", 3, () -> x.clock(0, A));
        Due.answer("16 VISIT stands", 7, () -> x.clock(0, V));
        Due.answer("16 MEND goes on", 8, () -> x.clock(0, M));
        Due.answer("16 VISIT stays reached", "throws.IllegalStateException", () -> x.reach(0, V));
        Due.answer("16 MEND is reached again", 0, () -> x.reach(0, M));
        Due.answer("16 once more", 8, () -> x.openAnew(0));

        x.rest(1, true);
        x.join(1, 0);
        x.reach(0, M);
        x.pass(100);
        Due.answer("16 closed with its head", 17, () -> x.openAnew(1));
        x.pass(1);
        for (int stage = A; stage <= M; stage++) {
            int of = stage;
            Due.answer("16 all clocks go on", 18, () -> x.clock(1, of));
        }
        Due.answer("16 its head stays closed", PromiseClocks.CLOSED, () -> x.stateOf(0));
        Due.answer("16 ANSWER", 1, () -> x.reach(1, A));
    }

    private static void clock() {
        PromiseClocks x = new PromiseClocks();
        x.open(0, 0, 0);
        x.setCalendar(1, 127, 0, 23);
        x.pass(7);
        x.open(1, 0, 0);
        Due.answer("18 nothing counts before 8", 0, () -> x.clock(0, A));
        x.pass(1);
        Due.answer("18 up to, not including, 8", 0, () -> x.clock(0, A));
        x.pass(1);
        Due.answer("18 from 8 on", 1, () -> x.clock(0, A));
        x.pass(9);
        Due.answer("18 to 17", 10, () -> x.clock(0, A));
        x.pass(14);
        Due.answer("18 not after it", 10, () -> x.clock(0, A));
        Due.answer("18 by its own site", 25, () -> x.clock(1, A));
        x.pass(1000);
        Due.answer("18 a long time at once", x.hours(0, 0, 1032), () -> x.clock(0, M));
    }

    private static void isMissed() {
        PromiseClocks x = Desks.allHours();
        x.open(0, 0, 2);
        int[] promises = {1, 2, 4};
        for (int passed = 0; passed < 6; passed++) {
            for (int stage = A; stage <= M; stage++) {
                int of = stage;
                Due.answer("19 after " + passed, passed > promises[stage], () -> x.isMissed(0, of));
            }
            x.pass(1);
        }
        x.reach(0, M);
        Due.answer("19 closed", true, () -> x.isMissed(0, M));
        x.setPromise(2, M, 6);
        Due.answer("19 as the promise is now", false, () -> x.isMissed(0, M));
        Due.answer("19 ANSWER still", true, () -> x.isMissed(0, A));
    }

    private static void steps() {
        PromiseClocks x = Desks.allHours();
        x.setPromise(0, A, 1000);
        x.setPromise(0, V, 1000);
        x.setPromise(0, M, 7);
        x.open(0, 0, 0);
        int[] due = {0, 0, 0, 0, 1, 1, 2, 2, 3};
        for (int passed = 0; passed < due.length; passed++) {
            Due.answer("20 " + passed + " of 7 hours", due[passed], () -> x.step(0));
            x.pass(1);
        }
        PromiseClocks y = Desks.allHours();
        y.setPromise(0, A, 200);
        y.setPromise(0, V, 1000);
        y.setPromise(0, M, 1000);
        y.open(0, 0, 0);
        int[][] at = {{99, 0}, {100, 1}, {149, 1}, {150, 2}, {200, 2}, {201, 3}};
        int before = 0;
        for (int[] a : at) {
            y.pass(a[0] - before);
            before = a[0];
            Due.answer("20 " + a[0] + " of 200 hours", a[1], () -> y.step(0));
        }
        y.reach(0, A);
        Due.answer("20 a reached stage is 0", 0, () -> y.step(0));
        y.setPromise(0, V, 400);
        Due.answer("20 VISIT", 1, () -> y.step(0));
        y.setPromise(0, M, 250);
        Due.answer("20 the greatest", 2, () -> y.step(0));
        y.rest(0, true);
        Due.answer("20 at rest", 2, () -> y.step(0));
        y.open(0, 0, 0);
        y.join(0, 1);
        Due.answer("20 joined", 2, () -> y.step(0));
        y.reach(1, M);
        Due.answer("20 closed by its head", 2, () -> y.step(0));
        Due.answer("20 closed by MEND", 0, () -> y.step(1));
    }

    private static void mostUrgent() {
        PromiseClocks x = Desks.allHours();
        Due.answer("21 no case", PromiseClocks.NONE, () -> x.mostUrgent());
        x.open(0, 0, 0);
        Due.answer("21 step 0 is enough", 0, () -> x.mostUrgent());
        x.open(0, 0, 0);
        Due.answer("21 lowest number", 0, () -> x.mostUrgent());
        x.open(0, 0, 1);
        x.open(0, 0, 1);
        Due.answer("21 greatest gravity, lowest number", 2, () -> x.mostUrgent());
        x.pass(5);
        Due.answer("21 all have 3: gravity", 2, () -> x.mostUrgent());
        x.rest(2, true);
        Due.answer("21 not at rest", 3, () -> x.mostUrgent());
        x.reach(3, M);
        Due.answer("21 not closed", 0, () -> x.mostUrgent());
        x.join(0, 1);
        Due.answer("21 not joined", 1, () -> x.mostUrgent());
        x.open(0, 0, 2);
        Due.answer("21 step before gravity", 1, () -> x.mostUrgent());
        x.reach(1, A);
        x.pass(2);
        Due.answer("21 then the other", 4, () -> x.mostUrgent());
        x.reach(1, M);
        x.reach(4, M);
        Due.answer("21 only one that rests", PromiseClocks.NONE, () -> x.mostUrgent());
        x.rest(2, false);
        Due.answer("21 it goes on", 2, () -> x.mostUrgent());
        x.reach(2, M);
        Due.answer("21 none open", PromiseClocks.NONE, () -> x.mostUrgent());
        x.openAnew(0);
        Due.answer("21 opened anew", 0, () -> x.mostUrgent());
        PromiseClocks full = new PromiseClocks();
        fullDesk(full);
        full.setGravity(39, 1);
        Due.answer("21 the last of 40", 39, () -> full.mostUrgent());
    }

    private static void mostUrgentOfThree() {
        // by a promise of 8 hours these have the steps 0, 1, 2 and 3
        int[] hours = {3, 4, 6, 9};
        for (int steps = 0; steps < 64; steps++) {
            for (int gravities = 0; gravities < 27; gravities++) {
                int[] step = {steps % 4, steps / 4 % 4, steps / 16};
                int[] gravity = {gravities % 3, gravities / 3 % 3, gravities / 9};
                PromiseClocks x = eightHoursPromised();
                int due = 0;
                for (int number = 0; number < 3; number++) {
                    x.open(0, 0, gravity[number]);
                    boolean more = step[number] > step[due];
                    if (more || step[number] == step[due] && gravity[number] > gravity[due]) {
                        due = number;
                    }
                }
                for (int hour = 1; hour <= 9; hour++) {
                    for (int number = 0; number < 3; number++) {
                        x.rest(number, hour > hours[step[number]]);
                    }
                    x.pass(1);
                }
                for (int number = 0; number < 3; number++) {
                    x.rest(number, false);
                }
                Due.answer("21 steps " + steps + ", gravities " + gravities, due, () -> x.mostUrgent());
            }
        }
    }

    private static PromiseClocks eightHoursPromised() {
        PromiseClocks x = Desks.allHours();
        for (int place = 0; place < 9; place++) {
            x.setPromise(place / 3, place % 3, 8);
        }
        return x;
    }

    private static void stateOf() {
        PromiseClocks x = new PromiseClocks();
        Desks.mixed(x);
        int[][] states = {Desks.MIXED_OPEN, Desks.MIXED_JOINED, Desks.MIXED_CLOSED};
        for (int state = PromiseClocks.OPEN; state <= PromiseClocks.CLOSED; state++) {
            for (int number : states[state]) {
                Due.answer("17 state of " + number, state, () -> x.stateOf(number));
            }
        }
    }
}
