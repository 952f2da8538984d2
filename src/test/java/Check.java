import java.util.concurrent.Callable;
import java.util.function.IntFunction;

/** What the tests share: it prints each answer that is not due, and counts. */
final class Check {
    private static int checks = 0;
    private static int wrong = 0;
    private static String about = "";
    private static final long LONGEST_MILLIS = 300_000;

    // A call that does not end must fail the run, not hold it up.
    static {
        Thread watch = new Thread(Check::stopLate);
        watch.setDaemon(true);
        watch.start();
    }

    private Check() {
    }

    private static void stopLate() {
        try {
            Thread.sleep(LONGEST_MILLIS);
        } catch (InterruptedException e) {
            return;
        }
        System.out.println(about + "does not end");
        Runtime.getRuntime().halt(1);
    }

    /** What the checks from here on are about, put in front of what they print. */
    static void about(String words) {
        about = words;
    }

    static void due(String what, long got, long want) {
        checks++;
        if (got != want) {
            wrong++;
            System.out.println(about + what + " answered " + got + ", due is " + want);
        }
    }

    static void dueText(String what, String got, String want) {
        checks++;
        if (!got.equals(want)) {
            wrong++;
            System.out.println(about + what + " answered " + got + ", due is " + want);
        }
    }

    /** The call must throw this very exception, not one of a class below it. */
    static void dueThrow(String what, Callable<?> call, Class<?> want) {
        String got = answer(call);
        dueText(what, got, "throws." + want.getSimpleName());
    }

    /** The call must throw this very exception for each of the wrong numbers. */
    static void dueThrows(String what, IntFunction<?> call, Class<?> want, int... wrongs) {
        for (int number : wrongs) {
            dueThrow(what + " " + number, () -> call.apply(number), want);
        }
    }

    /** What a call answers, as a text. */
    static String answer(Callable<?> call) {
        try {
            return String.valueOf(call.call());
        } catch (Exception e) {
            return "throws." + e.getClass().getSimpleName();
        }
    }

    static void end(String test) {
        System.out.println(test + ": " + checks + " checks, " + wrong + " wrong");
        if (wrong != 0 || checks == 0) {
            System.exit(1);
        }
    }
}
