import java.util.function.Consumer;
import java.util.function.Supplier;

/** Two clocks of the same calls, of which one is asked more: whatever each of them tells, the other must tell too. */
final class Twins {
    private static final int SAVED_STATES = 10;
    private static final int MOST_SAVED = 6;

    private Twins() {
    }

    /** The calls must change nothing: no query, no saved state, no snapshot, and nothing that is done later. */
    static void unchanged(String what, Supplier<CordClock> made, Consumer<CordClock> calls) {
        Check.dueText(what + ", then the past", past(after(made, calls)), past(made.get()));
        Check.dueText(what + ", then the future", future(after(made, calls)), future(made.get()));
    }

    /** The call must throw, and change nothing. */
    static void refused(String what, Supplier<CordClock> made, Consumer<CordClock> call, Class<?> want) {
        unchanged(what, made, clock -> Check.dueThrow(what, () -> {
            call.accept(clock);
            return "answered";
        }, want));
    }

    /** The call must save the state from before it, as one; the clock may not have saved six before. */
    static void undoable(String what, Supplier<CordClock> made, Consumer<CordClock> call) {
        CordClock clock = made.get();
        String before = Ask.state(clock);
        int saved = clock.count(SAVED_STATES);
        call.accept(clock);
        Check.due(what + " saves a state", clock.count(SAVED_STATES), saved + 1);
        Check.dueText(what + " is undone", Check.answer(clock::undo), String.valueOf(saved));
        Check.dueText(what + " is undone to", Ask.state(clock), before);
        CordClock twin = made.get();
        Check.dueText(what + ", then the undoes before it", undoAll(clock), undoAll(twin));
    }

    private static CordClock after(Supplier<CordClock> made, Consumer<CordClock> calls) {
        CordClock clock = made.get();
        calls.accept(clock);
        return clock;
    }

    private static String undoAll(CordClock clock) {
        StringBuilder told = new StringBuilder();
        for (int i = 0; i < MOST_SAVED && clock.count(SAVED_STATES) > 0; i++) {
            told.append(clock.undo()).append(": ").append(Ask.state(clock)).append("\n");
        }
        return told.append(Check.answer(clock::undo)).toString();
    }

    private static String past(CordClock clock) {
        StringBuilder told = new StringBuilder(Ask.all(clock)).append("\n").append(undoAll(clock));
        for (int slot = 0; slot < 2; slot++) {
            int asked = slot;
            told.append("\nslot ").append(Check.answer(() -> clock.goBack(asked))).append(": ").append(Ask.state(clock));
        }
        return told.toString();
    }

    private static String future(CordClock clock) {
        StringBuilder told = new StringBuilder();
        for (char sign : "run:9".toCharArray()) {
            told.append(Check.answer(() -> clock.append(sign))).append(' ');
        }
        told.append(Check.answer(clock::execute)).append(": ").append(Ask.all(clock)).append("\n");
        for (int end = 0; end < 8; end++) {
            int cord = end / 2;
            boolean left = end % 2 == 0;
            told.append(Check.answer(() -> clock.light(cord, left))).append(' ');
        }
        told.append(Check.answer(() -> clock.run(3))).append(": ").append(Ask.all(clock)).append("\n");
        told.append(Check.answer(() -> clock.cord(2, 3))).append(' ').append(Check.answer(() -> clock.rule(0, 1, true)));
        told.append(' ').append(Check.answer(() -> clock.run(200))).append(": ").append(Ask.all(clock)).append("\n");
        return told.append(Check.answer(clock::undo)).append(": ").append(Ask.all(clock)).toString();
    }
}
