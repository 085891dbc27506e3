import java.util.ArrayList;
import java.util.HashMap;
import java.util.List;
import java.util.Map;
import java.util.function.Consumer;

/** What the tests share: answers that are due, and exceptions that are due and change nothing. */
final class Due {
    interface Call {
        Object answer();
    }

    static final Class<? extends Exception> NO_SUCH = IndexOutOfBoundsException.class;
    static final Class<? extends Exception> ARGUMENT = IllegalArgumentException.class;
    static final Class<? extends Exception> STATE = IllegalStateException.class;

    private static final Map<Consumer<PromiseClocks>, List<String>> UNTOUCHED = new HashMap<>();

    private static int wrong = 0;

    private Due() {
    }

    static void answer(String what, Object due, Call call) {
        Object got = outcome(call);
        if (!due.equals(got)) {
            wrong++;
            System.out.println(what + ": answered " + got + ", due is " + due);
        }
    }

    /** The call throws exactly this class, and the object shows afterwards all that it would without the call. */
    static void refusal(String what, Class<? extends Exception> due,
            Consumer<PromiseClocks> before, Consumer<PromiseClocks> call) {
        List<String> untouched = UNTOUCHED.computeIfAbsent(before, b -> shown(b, x -> { }));
        List<String> refused = shown(before, x -> answer(what, "throws." + due.getSimpleName(), () -> {
            call.accept(x);
            return "nothing thrown";
        }));
        answer(what + ", shown afterwards", untouched, () -> refused);
    }

    private static List<String> shown(Consumer<PromiseClocks> before, Consumer<PromiseClocks> call) {
        List<String> texts = new ArrayList<>();
        for (Shown.View view : Shown.VIEWS) {
            PromiseClocks x = new PromiseClocks();
            before.accept(x);
            call.accept(x);
            StringBuilder text = new StringBuilder();
            view.note(text, x);
            texts.add(text.toString());
        }
        return texts;
    }

    static Object outcome(Call call) {
        try {
            return call.answer();
        } catch (RuntimeException e) {
            if (e.getClass() != NO_SUCH && e.getClass() != ARGUMENT && e.getClass() != STATE) {
                wrong++;
                System.out.println("no call may throw " + e);
            }
            return "throws." + e.getClass().getSimpleName();
        }
    }

    static void end() {
        System.out.println(wrong == 0 ? "all answers are as due" : wrong + " answers are not as due");
        if (wrong != 0) {
            System.exit(1);
        }
    }
}
