/** Promises 22 to 25: hours bought ahead, work, credits and what a site owes. */
public final class MoneyTest {
    public static void main(String[] args) {
        buy();
        work();
        workToday();
        credits();
        creditsOfToday();
        Due.end();
    }

    private static void buy() {
        PromiseClocks x = new PromiseClocks();
        Due.answer("22 least", 1, () -> x.buy(0, 1));
        Due.answer("22 most", 101, () -> x.buy(0, 100));
        Due.answer("22 another site", 3, () -> x.buy(3, 3));
        Due.answer("24 ahead", 101, () -> x.ahead(0));
        Due.answer("24 ahead of another one", 3, () -> x.ahead(3));
        Due.answer("24 none", 0, () -> x.ahead(1));
        Due.answer("25 owes", 707000, () -> x.owes(0));
        Due.answer("25 another one owes", 21000, () -> x.owes(3));
        Due.answer("25 none", 0, () -> x.owes(1));
    }

    private static void work() {
        PromiseClocks x = new PromiseClocks();
        x.open(0, 0, 0);
        x.open(0, 1, 0);
        x.addContract(0, 1, 0, 0);
        x.buy(0, 5);
        Due.answer("23 covered", 0, () -> x.work(0, 100));
        Due.answer("24 covered work uses none", 5, () -> x.ahead(0));
        Due.answer("23 all bought ahead", 0, () -> x.work(1, 2));
        Due.answer("24 two are used", 3, () -> x.ahead(0));
        Due.answer("23 a part bought ahead", 9000, () -> x.work(1, 4));
        Due.answer("24 all are used", 0, () -> x.ahead(0));
        Due.answer("23 nothing ahead", 900000, () -> x.work(1, 100));
        Due.answer("23 one hour", 9000, () -> x.work(1, 1));
        Due.answer("25 owes", 5 * 7000 + 102 * 9000, () -> x.owes(0));
        x.buy(1, 5);
        Due.answer("23 another site's hours are its own", 9000, () -> x.work(1, 1));
        Due.answer("24 they stay", 5, () -> x.ahead(1));
        x.rest(1, true);
        Due.answer("23 at rest", 18000, () -> x.work(1, 2));
        Due.answer("18 work takes no time", 0, () -> x.time());
    }

    private static void workToday() {
        PromiseClocks x = new PromiseClocks();
        x.open(2, 3, 0);
        x.addContract(2, 8, 1, 1);
        x.pass(23);
        Due.answer("23 the day before", 9000, () -> x.work(0, 1));
        x.pass(1);
        Due.answer("23 its first hour", 0, () -> x.work(0, 1));
        x.pass(23);
        Due.answer("23 its last hour", 0, () -> x.work(0, 1));
        x.pass(1);
        Due.answer("23 the day after", 9000, () -> x.work(0, 1));

        PromiseClocks last = new PromiseClocks();
        last.open(0, 0, 0);
        last.addContract(0, 1, 1000, 1000);
        for (int i = 0; i < 24; i++) {
            last.pass(1000);
        }
        Due.answer("23 the day 1000", 0, () -> last.work(0, 1));
        last.reach(0, PromiseClocks.MEND);
        Due.answer("25 credit on the day 1000", -7500, () -> last.owes(0));
    }

    private static void credits() {
        PromiseClocks x = new PromiseClocks();
        for (int site = 0; site < 2; site++) {
            x.setCalendar(site, 127, 0, 23);
            x.addContract(site, 1, 0, 1000);
        }
        x.open(0, 0, 0);
        x.open(0, 1, 0);
        x.open(0, 0, 0);
        x.open(0, 0, 0);
        x.pass(4);
        x.reach(0, PromiseClocks.ANSWER);
        x.pass(5);
        x.reach(0, PromiseClocks.VISIT);
        Due.answer("25 VISIT gives no credit", 0, () -> x.owes(0));
        x.pass(7);
        x.reach(0, PromiseClocks.MEND);
        Due.answer("25 one promise was missed", -2500, () -> x.owes(0));
        x.pass(1);
        x.reach(1, PromiseClocks.MEND);
        Due.answer("25 a kind that is not covered", -2500, () -> x.owes(0));
        x.join(2, 3);
        x.reach(3, PromiseClocks.MEND);
        Due.answer("25 three, and none for the joined one", -10000, () -> x.owes(0));
        x.openAnew(3);
        x.reach(3, PromiseClocks.MEND);
        Due.answer("25 again", -17500, () -> x.owes(0));
        x.openAnew(2);
        x.setPromise(0, PromiseClocks.MEND, 17);
        x.setPromise(0, PromiseClocks.VISIT, 17);
        x.reach(2, PromiseClocks.MEND);
        Due.answer("25 by the promises of now", -20000, () -> x.owes(0));
        x.buy(0, 1);
        Due.answer("25 a debt and credits", -13000, () -> x.owes(0));
        Due.answer("25 another site", 0, () -> x.owes(1));
        x.open(1, 0, 2);
        x.reach(4, PromiseClocks.MEND);
        Due.answer("25 nothing missed", 0, () -> x.owes(1));
    }

    private static void creditsOfToday() {
        PromiseClocks x = new PromiseClocks();
        x.setCalendar(0, 127, 0, 23);
        x.addContract(0, 1, 1, 1);
        x.open(0, 0, 2);
        x.open(0, 0, 2);
        x.pass(23);
        x.reach(0, PromiseClocks.MEND);
        Due.answer("25 not covered yet", 0, () -> x.owes(0));
        x.pass(1);
        x.reach(1, PromiseClocks.MEND);
        Due.answer("25 covered", -7500, () -> x.owes(0));
        x.pass(24);
        x.openAnew(1);
        x.reach(1, PromiseClocks.MEND);
        Due.answer("25 not covered any more", -7500, () -> x.owes(0));
    }
}
