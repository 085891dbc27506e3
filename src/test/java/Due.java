import java.util.function.Consumer;

/** What the tests share: answers that are due, exceptions that are due, and what an object shows. */
final class Due {
    interface Call {
        Object answer();
    }

    static final Class<? extends Exception> NO_SUCH = IndexOutOfBoundsException.class;
    static final Class<? extends Exception> ARGUMENT = IllegalArgumentException.class;
    static final Class<? extends Exception> STATE = IllegalStateException.class;

    private static int wrong = 0;

    private Due() {
    }

    static void answer(String what, Object due, Call call) {
        Object got = outcome(call);
        if (!due.equals(got)) {
            wrong++;
            System.out.println(what + ": answered " + got + ", due is " + due);
        }
    }

    /** The call throws exactly this class, and the object shows afterwards what it would without the call. */
    static void refusal(String what, Class<? extends Exception> due,
            Consumer<PromiseClocks> before, Consumer<PromiseClocks> call) {
        PromiseClocks refusing = new PromiseClocks();
        before.accept(refusing);
        answer(what, "throws." + due.getSimpleName(), () -> {
            call.accept(refusing);
            return "nothing thrown";
        });
        PromiseClocks untouched = new PromiseClocks();
        before.accept(untouched);
        answer(what + ", shown afterwards", shown(untouched), () -> shown(refusing));
    }

    static Object outcome(Call call) {
        try {
            return call.answer();
        } catch (RuntimeException e) {
            if (e.getClass() != NO_SUCH && e.getClass() != ARGUMENT && e.getClass() != STATE) {
                wrong++;
                System.out.println("no call may throw " + e);
            }
            return "throws." + e.getClass().getSimpleName();
        }
    }

    /**
     * Everything that an object shows of at most 4 of its cases, in some 280 calls.
     * The last of them change it: an object that was shown is used up.
     */
    static String shown(PromiseClocks x) {
        StringBuilder text = new StringBuilder();
        note(text, () -> x.time());
        note(text, () -> x.mostUrgent());
        for (int site = 0; site < 4; site++) {
            noteSite(text, x, site);
        }
        for (int number = 0; number < 4; number++) {
            noteCase(text, x, number);
        }
        note(text, () -> x.pass(10));
        note(text, () -> x.mostUrgent());
        for (int number = 0; number < 4; number++) {
            int of = number;
            note(text, () -> x.clock(of, 0));
            note(text, () -> x.clock(of, 2));
            note(text, () -> x.setGravity(of, 0));
            note(text, () -> x.rest(of, true));
        }
        for (int place = 0; place < 9; place++) {
            int of = place;
            note(text, () -> x.setPromise(of / 3, of % 3, 1));
        }
        note(text, () -> x.open(0, 0, 0));
        return text.toString();
    }

    private static void noteSite(StringBuilder text, PromiseClocks x, int site) {
        note(text, () -> x.ahead(site));
        note(text, () -> x.owes(site));
        for (int hour = 0; hour < 24; hour++) {
            int from = hour;
            note(text, () -> x.hours(site, from, from + 1));
        }
        for (int kind = 0; kind < 4; kind++) {
            int of = kind;
            for (int day : new int[] {0, 1, 3, 10, 1000}) {
                note(text, () -> x.isCovered(site, of, day));
            }
            note(text, () -> x.nextGap(site, of, 0));
        }
        note(text, () -> x.addContract(site, 1, 1000, 1000));
        note(text, () -> x.setCalendar(site, 127, 0, 23));
    }

    private static void noteCase(StringBuilder text, PromiseClocks x, int number) {
        note(text, () -> x.stateOf(number));
        note(text, () -> x.step(number));
        for (int stage = 0; stage < 3; stage++) {
            int of = stage;
            note(text, () -> x.clock(number, of));
            note(text, () -> x.isMissed(number, of));
        }
    }

    private static void note(StringBuilder text, Call call) {
        text.append(outcome(call)).append(' ');
    }

    static void end() {
        System.out.println(wrong == 0 ? "all answers are as due" : wrong + " answers are not as due");
        if (wrong != 0) {
            System.exit(1);
        }
    }
}
