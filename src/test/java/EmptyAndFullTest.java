/** Promises 1 to 25 where nothing is there yet, and where there is all there can be. */
public final class EmptyAndFullTest {
    private static final int A = PromiseClocks.ANSWER, V = PromiseClocks.VISIT, M = PromiseClocks.MEND;
    private static final String REFUSED = "throws.IllegalStateException";

    public static void main(String[] args) {
        noContract();
        noCase();
        noHoursAhead();
        noHourThatCounts();
        eightContracts();
        eightContractsOfEachSite();
        fortyCases();
        fortyCasesJoined();
        fortyCasesUrgent();
        timeUpTo24000();
        allCallsAt24000();
        dayThousand();
        muchMoney();
        Due.end();
    }

    private static void noContract() {
        PromiseClocks x = Desks.allHours();
        for (int site = 0; site < 4; site++) {
            for (int kind = 0; kind < 4; kind++) {
                int of = site;
                int thing = kind;
                for (int day : new int[] {0, 1, 999, 1000}) {
                    Due.answer("5 no contract", false, () -> x.isCovered(of, thing, day));
                    Due.answer("6 no contract: the day itself", day, () -> x.nextGap(of, thing, day));
                }
            }
            x.open(site, site, 0);
        }
        x.pass(17);
        for (int site = 0; site < 4; site++) {
            int of = site;
            Due.answer("23 no contract", 9000, () -> x.work(of, 1));
            Due.answer("12 all missed", 3, () -> x.reach(of, M));
            Due.answer("25 no contract, no credit", 9000, () -> x.owes(of));
        }
    }

    private static void noCase() {
        PromiseClocks x = new PromiseClocks();
        Due.answer("21 no case", PromiseClocks.NONE, () -> x.mostUrgent());
        Due.answer("7 no case", 1000, () -> x.pass(1000));
        Due.answer("21 still none", PromiseClocks.NONE, () -> x.mostUrgent());
        Due.answer("17 no case 0", "throws.IndexOutOfBoundsException", () -> x.stateOf(0));
        Due.answer("11 the first number", 0, () -> x.open(3, 3, 2));
        Due.answer("17 case 0", PromiseClocks.OPEN, () -> x.stateOf(0));
        Due.answer("17 no case 1", "throws.IndexOutOfBoundsException", () -> x.stateOf(1));
        Due.answer("11 its clocks begin then", 0, () -> x.clock(0, M));
        Due.answer("20 no hour was used up", 0, () -> x.step(0));
        Due.answer("21 the only one", 0, () -> x.mostUrgent());
    }

    private static void noHoursAhead() {
        PromiseClocks x = new PromiseClocks();
        x.open(0, 0, 0);
        x.buy(1, 100);
        Due.answer("24 none bought", 0, () -> x.ahead(0));
        Due.answer("23 none bought", 9000, () -> x.work(0, 1));
        Due.answer("24 not below 0", 0, () -> x.ahead(0));
        Due.answer("22 one", 1, () -> x.buy(0, 1));
        Due.answer("23 as many as there are", 0, () -> x.work(0, 1));
        Due.answer("24 used up", 0, () -> x.ahead(0));
        x.buy(0, 7);
        Due.answer("23 one more than there are", 9000, () -> x.work(0, 8));
        Due.answer("24 used up again", 0, () -> x.ahead(0));
        x.buy(0, 9);
        Due.answer("23 one less than there are", 0, () -> x.work(0, 8));
        Due.answer("24 one is left", 1, () -> x.ahead(0));
        Due.answer("23 all but one cost", 99 * 9000, () -> x.work(0, 100));
        Due.answer("25 what was bought and what was worked", (1 + 7 + 9) * 7000 + (1 + 1 + 99) * 9000,
            () -> x.owes(0));
        Due.answer("24 the other site's are untouched", 100, () -> x.ahead(1));
    }

    private static void noHourThatCounts() {
        PromiseClocks x = new PromiseClocks();
        x.setCalendar(0, 0, 0, 23);
        x.open(0, 0, 2);
        Desks.passTo(x, 24000);
        Due.answer("9 no weekday", 0, () -> x.hours(0, 0, 24000));
        Due.answer("10 no weekday", 0, () -> x.hoursOneByOne(0, 0, 24000));
        for (int stage = A; stage <= M; stage++) {
            int of = stage;
            Due.answer("18 no weekday", 0, () -> x.clock(0, of));
            Due.answer("19 nothing passed", false, () -> x.isMissed(0, of));
        }
        Due.answer("20 nothing passed", 0, () -> x.step(0));
        Due.answer("12 nothing missed", 0, () -> x.reach(0, M));
    }

    private static void eightContracts() {
        PromiseClocks x = new PromiseClocks();
        for (int i = 0; i < 8; i++) {
            int first = 125 * i;
            int due = i + 1;
            Due.answer("3 contract " + due, due, () -> x.addContract(1, 2, first, first + 124));
            Due.answer("6 covered up to its last day", first + 125, () -> x.nextGap(1, 1, 0));
        }
        Due.answer("3 the ninth", REFUSED, () -> x.addContract(1, 2, 1000, 1000));
        Due.answer("6 the ninth covers nothing", 1000, () -> x.nextGap(1, 1, 0));
        for (int i = 0; i < 8; i++) {
            int first = 125 * i;
            Due.answer("5 first day of contract " + i, true, () -> x.isCovered(1, 1, first));
            Due.answer("5 last day of contract " + i, true, () -> x.isCovered(1, 1, first + 124));
        }
        Due.answer("5 the day after all", false, () -> x.isCovered(1, 1, 1000));

        PromiseClocks last = new PromiseClocks();
        for (int i = 0; i < 7; i++) {
            last.addContract(1, 1, 0, 0);
        }
        last.addContract(1, 2, 0, 1000);
        Due.answer("6 the eighth alone covers all", PromiseClocks.NONE, () -> last.nextGap(1, 1, 0));
    }

    private static void eightContractsOfEachSite() {
        PromiseClocks x = new PromiseClocks();
        for (int i = 1; i <= 8; i++) {
            for (int site = 0; site < 4; site++) {
                int due = i;
                int of = site;
                Due.answer("3 each site has its own", due, () -> x.addContract(of, 15, 8 * of + due, 8 * of + due));
            }
        }
        for (int site = 0; site < 4; site++) {
            int of = site;
            Due.answer("3 each is full", REFUSED, () -> x.addContract(of, 15, 0, 1000));
            Due.answer("6 its own days", 8 * of + 9, () -> x.nextGap(of, 3, 8 * of + 1));
            Due.answer("5 not those of others", false, () -> x.isCovered(of, 3, 8 * ((of + 1) % 4) + 4));
        }
    }

    private static void fortyCases() {
        PromiseClocks x = Desks.allHours();
        Desks.thirtyNineCases(x);
        Due.answer("11 the 40th", 39, () -> x.open(2, 3, 1));
        Due.answer("11 the 41st", REFUSED, () -> x.open(2, 3, 1));
        x.pass(3);
        for (int stage = A; stage <= M; stage++) {
            int of = stage;
            Due.answer("18 of the last one", 3, () -> x.clock(39, of));
        }
        Due.answer("19 ANSWER of the last one", true, () -> x.isMissed(39, A));
        Due.answer("19 VISIT of the last one", false, () -> x.isMissed(39, V));
        Due.answer("20 of the last one", 3, () -> x.step(39));
        Due.answer("14 of the last one", 1, () -> x.setGravity(39, 2));
        Due.answer("13 of the last one", false, () -> x.rest(39, true));
        Due.answer("23 of the last one", 9000, () -> x.work(39, 1));
        Due.answer("12 of the last one", 2, () -> x.reach(39, M));
        Due.answer("17 of the last one", PromiseClocks.CLOSED, () -> x.stateOf(39));
        Due.answer("16 of the last one", 3, () -> x.openAnew(39));
        for (int number = 0; number < 40; number++) {
            x.reach(number, M);
        }
        Due.answer("11 closed ones keep their numbers", REFUSED, () -> x.open(0, 0, 0));
        Due.answer("21 all are closed", PromiseClocks.NONE, () -> x.mostUrgent());
        Due.answer("17 no case 40", "throws.IndexOutOfBoundsException", () -> x.stateOf(40));
    }

    private static void fortyCasesJoined() {
        PromiseClocks x = Desks.allHours();
        for (int number = 0; number < 40; number++) {
            x.open(0, 0, 0);
        }
        for (int number = 0; number < 39; number++) {
            int of = number;
            Due.answer("15 joined " + of, of + 1, () -> x.join(of, 39));
        }
        Due.answer("21 only the head is open", 39, () -> x.mostUrgent());
        x.pass(20);
        Due.answer("18 no clock of a joined one", 0, () -> x.clock(38, M));
        Due.answer("12 the head's alone are missed", 3, () -> x.reach(39, M));
        for (int number = 0; number < 40; number++) {
            int of = number;
            Due.answer("17 closed with the head", PromiseClocks.CLOSED, () -> x.stateOf(of));
        }
        for (int number = 39; number >= 0; number--) {
            int of = number;
            Due.answer("16 each can be opened anew", of == 39 ? 20 : 0, () -> x.openAnew(of));
        }
        Due.answer("15 none is joined any more", 1, () -> x.join(39, 0));
    }

    private static void fortyCasesUrgent() {
        for (int number : new int[] {0, 1, 38, 39}) {
            PromiseClocks x = Desks.allHours();
            for (int i = 0; i < 40; i++) {
                x.open(0, 0, 1);
            }
            x.setGravity(number, 2);
            Due.answer("21 one of 40", number, () -> x.mostUrgent());
            for (int other = 0; other < 40; other++) {
                if (other != number) {
                    x.rest(other, true);
                }
            }
            x.setGravity(number, 0);
            Due.answer("21 the only one that does not rest", number, () -> x.mostUrgent());
            x.rest(number, true);
            Due.answer("21 all 40 rest", PromiseClocks.NONE, () -> x.mostUrgent());
        }
    }

    private static void timeUpTo24000() {
        PromiseClocks x = new PromiseClocks();
        for (int i = 1; i <= 24; i++) {
            int due = 1000 * i;
            Due.answer("7 a thousand each", due, () -> x.pass(1000));
        }
        Due.answer("7 not one more", REFUSED, () -> x.pass(1));
        Due.answer("7 nor a thousand", REFUSED, () -> x.pass(1000));
        Due.answer("8 it stays", 24000, () -> x.time());
    }

    private static void allCallsAt24000() {
        PromiseClocks x = Desks.allHours();
        x.open(0, 0, 0);
        x.open(0, 1, 0);
        x.open(0, 2, 0);
        x.rest(1, true);
        Desks.passTo(x, 24000);
        Due.answer("18 all that can pass", 24000, () -> x.clock(0, M));
        Due.answer("18 none of it at rest", 0, () -> x.clock(1, M));
        Due.answer("20 far above", 3, () -> x.step(0));
        Due.answer("4 promises", 16, () -> x.setPromise(0, M, 1000));
        Due.answer("20 far above a thousand", 3, () -> x.step(0));
        Due.answer("11 opens", 3, () -> x.open(0, 3, 2));
        Due.answer("20 at its beginning", 0, () -> x.step(3));
        Due.answer("13 rests", true, () -> x.rest(1, false));
        Due.answer("14 gravity", 0, () -> x.setGravity(1, 1));
        Due.answer("15 joins", 1, () -> x.join(1, 0));
        Due.answer("23 work", 9000, () -> x.work(2, 1));
        Due.answer("12 reaches", 3, () -> x.reach(0, M));
        Due.answer("16 the clock of MEND", 24000, () -> x.openAnew(0));
        Due.answer("16 of one that was joined", 0, () -> x.openAnew(1));
        Due.answer("2 calendars", 127, () -> x.setCalendar(0, 0, 0, 0));
        Due.answer("18 what has passed stays counted", 24000, () -> x.clock(0, M));
        Due.answer("22 buys", 100, () -> x.buy(0, 100));
        Due.answer("3 contracts", 1, () -> x.addContract(0, 15, 0, 1000));
    }

    private static void dayThousand() {
        PromiseClocks x = Desks.allHours();
        x.addContract(0, 1, 0, 999);
        x.addContract(1, 1, 1000, 1000);
        for (int i = 0; i < 2; i++) {
            x.open(0, 0, 0);
            x.open(1, 0, 0);
        }
        Desks.passTo(x, 23999);
        Due.answer("23 the day 999 is not over", 0, () -> x.work(0, 1));
        Due.answer("23 the day 1000 has not begun", 9000, () -> x.work(1, 1));
        x.reach(0, M);
        x.reach(1, M);
        Due.answer("25 credit on the day 999", -7500, () -> x.owes(0));
        Due.answer("25 none on the day before", 9000, () -> x.owes(1));
        x.pass(1);
        Due.answer("23 the day 999 is over", 9000, () -> x.work(2, 1));
        Due.answer("23 the day 1000 has begun", 0, () -> x.work(3, 1));
        x.reach(2, M);
        x.reach(3, M);
        Due.answer("25 none on the day after", -7500 + 9000, () -> x.owes(0));
        Due.answer("25 credit on the day 1000", 9000 - 7500, () -> x.owes(1));
    }

    private static void muchMoney() {
        PromiseClocks x = new PromiseClocks();
        x.open(0, 0, 0);
        for (int i = 1; i <= 250; i++) {
            int due = 100 * i;
            Due.answer("22 a hundred more", due, () -> x.buy(0, 100));
        }
        for (int i = 0; i < 250; i++) {
            Due.answer("23 all ahead", 0, () -> x.work(0, 100));
        }
        Due.answer("24 none left", 0, () -> x.ahead(0));
        Due.answer("25 all bought", 250 * 100 * 7000, () -> x.owes(0));

        PromiseClocks y = new PromiseClocks();
        y.open(3, 0, 0);
        for (int i = 0; i < 500; i++) {
            y.work(0, 100);
        }
        Due.answer("25 all worked", 500 * 100 * 9000, () -> y.owes(3));

        PromiseClocks z = Desks.allHours();
        z.addContract(2, 1, 0, 1000);
        z.open(2, 0, 2);
        z.pass(1000);
        for (int i = 0; i < 200; i++) {
            z.reach(0, M);
            z.openAnew(0);
        }
        Due.answer("25 far below 0", 200 * -7500, () -> z.owes(2));
    }
}
