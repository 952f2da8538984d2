import java.util.function.ToIntFunction;

/** Each method with each argument at, beside and far from its bounds, on clocks that are new, busy and full. */
public final class GridTest {
    private static final int[] CORDS = {Ask.LOW, -1, 0, 1, 2, 3, 4, 256, Ask.HIGH};
    private static final int[] FEW = {Ask.LOW, -2, -1, 0, 1, 2, 3, 5, 6, 7, 8, 9, 11, 12, Ask.HIGH};
    private static final int[] TIMES = {Ask.LOW, -1, 0, 1, 2, 59, 60, 61, 65536 + 1, Ask.HIGH};
    private static final int[] STEPS = {Ask.LOW, -1, 0, 1, 2, 199, 200, 201, 65536 + 1, Ask.HIGH};
    private static final int[] CODES = {Ask.LOW, -1, 0, 31, 32, 33, 48, 59, 125, 126, 127, 128, 65536 + 33, Ask.HIGH};
    private static final int[] SETS = {Ask.LOW, -1, 0, 1, 3, 4, 7, 8, 11, 13, 14, 15, 16, 17, 32, Ask.HIGH};
    private static final int[] TOLD = {Ask.LOW, -1, 0, 1, 2, 5, 9, 10, 1079, 1080, 1081, Ask.HIGH};
    private static final boolean[] ENDS = {true, false};
    private static final int STATES = 4;

    private final String name;
    private final CordClock clock = new CordClock();
    private final SlowClock slow = new SlowClock();

    private GridTest(int state) {
        name = new String[] {"new", "busy", "full", "undone"}[state] + " clock: ";
        if (state > 0) {
            execute("new:4.5;new:2;new:9", "when:1,2L;when:1,0R;when:2,0L;lit:0L;lit:1L;lit:1R;run:3", "lit:0R");
            both("keep", c -> c.keep(0), s -> s.keep(0));
            type("run:1;");
        }
        if (state == 2) {
            type("run:2");
            execute(";new:60.60;lit:3R", "when:0,1L;when:0,1R;when:0,2R;when:3,1L;when:3,2R;run:1", "lit:2R");
            both("keep", c -> c.keep(1), s -> s.keep(1));
            both("run", c -> c.run(9), s -> s.run(9));
            type("run:1;run:1;run:1;run:1;run:1;run:1;run:1;run:1;run:1;run:10");
        }
        for (int i = 0; state == 3 && i < 3; i++) {
            both("undo", CordClock::undo, SlowClock::undo);
        }
    }

    public static void main(String[] args) {
        for (int state = 0; state < STATES; state++) {
            cords(state);
            flamesAndRules(state);
            texts(state);
            queries(state);
            foresight(state);
        }
        Check.end("GridTest");
    }

    private void type(String text) {
        for (char sign : text.toCharArray()) {
            both("append", c -> c.append(sign), s -> s.append(sign));
        }
    }

    private void execute(String... texts) {
        for (String text : texts) {
            type(text);
            both("execute", CordClock::execute, SlowClock::execute);
        }
    }

    private String both(String call, ToIntFunction<CordClock> fast, ToIntFunction<SlowClock> slowly) {
        String want = Check.answer(() -> slowly.applyAsInt(slow));
        Check.dueText(name + call, Check.answer(() -> fast.applyAsInt(clock)), want);
        return want;
    }

    /** A call that changes something needs a clock of its own. */
    private static void call(int state, String what, ToIntFunction<CordClock> fast, ToIntFunction<SlowClock> slowly) {
        GridTest test = new GridTest(state);
        String before = Ask.all(test.clock);
        String answer = test.both(what, fast, slowly);
        if (answer.startsWith("throws")) {
            Check.dueText(test.name + what + " changes nothing", Ask.all(test.clock), before);
        }
        test.compare(what);
    }

    private void compare(String after) {
        for (int i = 0; i < Ask.COUNTS; i++) {
            int what = i;
            both(after + ", then count " + i, c -> c.count(what), s -> s.count(what));
        }
        for (int i = 0; i < 4 * Ask.NUMBERS_OF_A_CORD; i++) {
            int cord = i % 4;
            int what = i / 4;
            both(after + ", then cordOf " + i, c -> c.cordOf(cord, what), s -> s.cordOf(cord, what));
            both(after + ", then segment " + i, c -> c.segment(cord, what), s -> s.segment(cord, what));
            both(after + ", then ruleOf " + i, c -> c.ruleOf(what, cord), s -> s.ruleOf(what, cord));
            both(after + ", then front " + i, c -> c.front(cord, what > 3), s -> s.front(cord, what > 3));
        }
        for (int i = 0; i < 9 * 10; i++) {
            int ago = i % 9;
            int index = i / 9;
            both(after + ", then entry " + i, c -> c.entry(ago, index), s -> s.entry(ago, index));
        }
    }

    private static void cords(int state) {
        for (int a : FEW) {
            for (int b : TIMES) {
                call(state, "cord " + a + " " + b, c -> c.cord(a, b), s -> s.cord(a, b));
                for (int cord : CORDS) {
                    call(state, "uneven " + cord + " " + a + " " + b, c -> c.uneven(cord, a, b), s -> s.uneven(cord, a, b));
                }
            }
        }
        for (int cord : CORDS) {
            call(state, "renew " + cord, c -> c.renew(cord), s -> s.renew(cord));
        }
        for (int steps : STEPS) {
            call(state, "run " + steps, c -> c.run(steps), s -> s.run(steps));
        }
    }

    private static void flamesAndRules(int state) {
        for (int cord : CORDS) {
            for (boolean left : ENDS) {
                call(state, "light " + cord + left, c -> c.light(cord, left), s -> s.light(cord, left));
                call(state, "putOut " + cord + left, c -> c.putOut(cord, left), s -> s.putOut(cord, left));
                for (int out : CORDS) {
                    call(state, "rule " + out + " " + cord + left, c -> c.rule(out, cord, left), s -> s.rule(out, cord, left));
                }
            }
        }
        call(state, "dropRules", CordClock::dropRules, SlowClock::dropRules);
    }

    private static void texts(int state) {
        for (int code : CODES) {
            call(state, "append " + code, c -> c.append(code), s -> s.append(code));
        }
        call(state, "clearBuffer", CordClock::clearBuffer, SlowClock::clearBuffer);
        call(state, "firstError", CordClock::firstError, SlowClock::firstError);
        call(state, "execute", CordClock::execute, SlowClock::execute);
        call(state, "undo", CordClock::undo, SlowClock::undo);
        for (int slot : FEW) {
            call(state, "keep " + slot, c -> c.keep(slot), s -> s.keep(slot));
            call(state, "goBack " + slot, c -> c.goBack(slot), s -> s.goBack(slot));
        }
    }

    private static void queries(int state) {
        GridTest test = new GridTest(state);
        for (int a : FEW) {
            test.both("count " + a, c -> c.count(a), s -> s.count(a));
            for (int b : FEW) {
                test.both("cordOf " + a + " " + b, c -> c.cordOf(a, b), s -> s.cordOf(a, b));
                test.both("segment " + a + " " + b, c -> c.segment(a, b), s -> s.segment(a, b));
                test.both("front " + a + " " + b, c -> c.front(a, b > 0), s -> s.front(a, b > 0));
                test.both("ruleOf " + a + " " + b, c -> c.ruleOf(a, b), s -> s.ruleOf(a, b));
                test.both("entry " + a + " " + b, c -> c.entry(a, b), s -> s.entry(a, b));
            }
        }
    }

    private static void foresight(int state) {
        GridTest test = new GridTest(state);
        for (int cord : CORDS) {
            test.both("outIn " + cord, c -> c.outIn(cord), s -> s.outIn(cord));
            for (int a : FEW) {
                for (int b : FEW) {
                    test.both("lasts " + cord + " " + a + " " + b, c -> c.lasts(cord, a, b), s -> s.lasts(cord, a, b));
                }
            }
        }
        for (int set : SETS) {
            for (int time : TOLD) {
                test.both("fewestFlames " + set + " " + time, c -> c.fewestFlames(set, time), s -> s.fewestFlames(set, time));
                test.both("tellable " + set + " " + time, c -> c.tellable(set, time), s -> s.tellable(set, time));
            }
        }
        float got = test.clock.burned();
        Check.due("burned", Float.floatToRawIntBits(got), Float.floatToRawIntBits(test.slow.burned()));
    }
}
