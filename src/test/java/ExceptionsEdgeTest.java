import java.io.IOException;
import java.util.function.Consumer;
import java.util.function.Supplier;

/** The sentences under "Exceptions": what a refused call leaves, which exception comes first, what no query changes. */
public final class ExceptionsEdgeTest {
    private static final String HEADING = "Exceptions";
    private static final String NOTHING = "A call that throws an exception changes nothing";
    private static final String FIRST = "If more than one exception applies";
    private static final Class<?> INDEX = IndexOutOfBoundsException.class;
    private static final Class<?> ARGUMENT = IllegalArgumentException.class;
    private static final Class<?> STATE = IllegalStateException.class;
    private static final String SIXTY = "run:1;run:1;run:1;run:1;run:1;run:1;run:1;run:1;run:1;run:10";

    public static void main(String[] args) throws IOException {
        Sentences document = new Sentences(args, HEADING);
        document.test(HEADING, NOTHING, ExceptionsEdgeTest::refusedCordCalls);
        document.test(HEADING, NOTHING, ExceptionsEdgeTest::refusedFlameCalls);
        document.test(HEADING, NOTHING, ExceptionsEdgeTest::refusedRuleAndRunCalls);
        document.test(HEADING, NOTHING, ExceptionsEdgeTest::refusedTextCalls);
        document.test(HEADING, NOTHING, ExceptionsEdgeTest::refusedUndoAndSlotCalls);
        document.test(HEADING, NOTHING, ExceptionsEdgeTest::refusedQueries);
        document.test(HEADING, NOTHING, ExceptionsEdgeTest::refusedForesight);
        document.test(HEADING, NOTHING, ExceptionsEdgeTest::refusedCallsOfANewClock);
        document.test(HEADING, FIRST, ExceptionsEdgeTest::firstOfCord);
        document.test(HEADING, FIRST, ExceptionsEdgeTest::firstOfUneven);
        document.test(HEADING, FIRST, ExceptionsEdgeTest::firstOfRule);
        document.test(HEADING, FIRST, ExceptionsEdgeTest::firstOfAppend);
        document.test(HEADING, FIRST, ExceptionsEdgeTest::firstOfGoBack);
        document.test(HEADING, FIRST, ExceptionsEdgeTest::firstOfQueries);
        document.test(HEADING, FIRST, ExceptionsEdgeTest::firstOfLightAndPutOut);
        document.test(HEADING, "The constants: `NONE = -1`", ExceptionsEdgeTest::none);
        document.free(HEADING, "Ahead of the calls `cord`");
        document.free(HEADING, "Ahead of the calls `append`");
        document.free(HEADING, "Ahead of the calls `undo`");
        document.test(HEADING, "Ahead of the calls `cordOf`", ExceptionsEdgeTest::queriesChangeNothing);
        document.test(HEADING, "Ahead of the calls `outIn`", ExceptionsEdgeTest::foresightChangesNothing);
        document.end("ExceptionsEdgeTest");
    }

    /** Four cords: burning at both ends, burned out, burned in part without a flame, new; slot 0 alone is kept. */
    private static CordClock busy() {
        CordClock clock = Ask.clockOf("new:4.5;new:2;new:9;new:6.6", "when:1,3L;when:1,0R;when:3,2L;lit:0L;lit:1L;lit:2R");
        clock.keep(0);
        clock.run(3);
        clock.putOut(2, false);
        clock.putOut(3, true);
        clock.renew(3);
        Ask.type(clock, "run:1;");
        return clock;
    }

    /** Nothing has room left: four cords, eight rules, 60 characters, six saved states, both slots. */
    private static CordClock full() {
        CordClock clock = Ask.clockOf("new:1;new:9;new:9.60;new:60.60", "when:0,1L;when:0,2R;when:1,3L;when:2,3R");
        clock.keep(0);
        Ask.execute(clock, "when:0,1R;when:1,0L;when:3,2L;when:3,2R");
        Ask.execute(clock, "lit:0L;lit:0R;lit:2L;run:7");
        clock.keep(1);
        for (int i = 0; i < 5; i++) {
            clock.run(i + 1);
        }
        Ask.type(clock, SIXTY);
        return clock;
    }

    private static void refused(String what, Class<?> want, Consumer<CordClock> call) {
        Twins.refused(what + " of the busy clock", ExceptionsEdgeTest::busy, call, want);
    }

    private static void refusedIfFull(String what, Class<?> want, Consumer<CordClock> call) {
        Twins.refused(what + " of the full clock", ExceptionsEdgeTest::full, call, want);
    }

    // ---- "A call that throws an exception changes nothing."

    private static void refusedCordCalls() {
        refused("cord(0, 1)", ARGUMENT, clock -> clock.cord(0, 1));
        refused("cord(1, 61)", ARGUMENT, clock -> clock.cord(1, 61));
        refused("the fifth cord", STATE, clock -> clock.cord(6, 60));
        refusedIfFull("the fifth cord", STATE, clock -> clock.cord(6, 60));
        refused("uneven, no cord", INDEX, clock -> clock.uneven(4, 0, 1));
        refused("uneven, no segment", INDEX, clock -> clock.uneven(3, 2, 1));
        refused("uneven, time", ARGUMENT, clock -> clock.uneven(3, 1, 61));
        refused("uneven, burning", STATE, clock -> clock.uneven(0, 0, 1));
        refused("uneven, burned out", STATE, clock -> clock.uneven(1, 0, 1));
        refused("uneven, burned in part", STATE, clock -> clock.uneven(2, 0, 1));
        refusedIfFull("uneven, burned out", STATE, clock -> clock.uneven(0, 0, 60));
        refused("renew", INDEX, clock -> clock.renew(4));
        refusedIfFull("renew", INDEX, clock -> clock.renew(-1));
    }

    private static void refusedFlameCalls() {
        refused("light, no cord", INDEX, clock -> clock.light(4, true));
        refused("light, a left flame", STATE, clock -> clock.light(0, true));
        refused("light, a right flame", STATE, clock -> clock.light(0, false));
        refused("light, burned out", STATE, clock -> clock.light(1, false));
        refusedIfFull("light, burned out", STATE, clock -> clock.light(0, true));
        refusedIfFull("light, a flame", STATE, clock -> clock.light(2, true));
        refused("putOut, no cord", INDEX, clock -> clock.putOut(4, true));
        refused("putOut, burned out", STATE, clock -> clock.putOut(1, true));
        refused("putOut, put out before", STATE, clock -> clock.putOut(2, false));
        refused("putOut, never lit", STATE, clock -> clock.putOut(2, true));
        refusedIfFull("putOut, burned out", STATE, clock -> clock.putOut(0, false));
    }

    private static void refusedRuleAndRunCalls() {
        refused("rule, no cord is out", INDEX, clock -> clock.rule(4, 0, true));
        refused("rule, no cord is lit", INDEX, clock -> clock.rule(0, 4, true));
        refused("rule, the same", ARGUMENT, clock -> clock.rule(3, 3, true));
        refusedIfFull("the ninth rule", STATE, clock -> clock.rule(0, 1, true));
        refused("run(0)", ARGUMENT, clock -> clock.run(0));
        refused("run(201)", ARGUMENT, clock -> clock.run(201));
        refusedIfFull("run(201)", ARGUMENT, clock -> clock.run(201));
    }

    private static void refusedTextCalls() {
        refused("append(32)", ARGUMENT, clock -> clock.append(32));
        refused("append(127)", ARGUMENT, clock -> clock.append(127));
        refusedIfFull("the 61st character", STATE, clock -> clock.append('0'));
        refused("execute", ARGUMENT, CordClock::execute);
        Supplier<CordClock> error = () -> {
            CordClock clock = busy();
            Ask.type(clock, "run:201");
            return clock;
        };
        Twins.refused("execute with an error", error, CordClock::execute, ARGUMENT);
    }

    private static void refusedUndoAndSlotCalls() {
        Supplier<CordClock> undone = () -> {
            CordClock clock = busy();
            for (int i = 0; i < 6; i++) {
                Check.answer(clock::undo);
            }
            return clock;
        };
        Twins.refused("undo", undone, CordClock::undo, STATE);
        refused("keep(-1)", ARGUMENT, clock -> clock.keep(-1));
        refused("keep(2)", ARGUMENT, clock -> clock.keep(2));
        refusedIfFull("keep(2)", ARGUMENT, clock -> clock.keep(2));
        refused("goBack(-1)", ARGUMENT, clock -> clock.goBack(-1));
        refused("goBack(2)", ARGUMENT, clock -> clock.goBack(2));
        refused("goBack to an empty slot", STATE, clock -> clock.goBack(1));
        refusedIfFull("goBack(2)", ARGUMENT, clock -> clock.goBack(2));
    }

    private static void refusedQueries() {
        refused("cordOf, no cord", INDEX, clock -> clock.cordOf(4, 0));
        refused("cordOf(0, 8)", ARGUMENT, clock -> clock.cordOf(0, 8));
        refused("segment, no cord", INDEX, clock -> clock.segment(4, 0));
        refused("segment, no segment", INDEX, clock -> clock.segment(0, 2));
        refused("front", INDEX, clock -> clock.front(4, true));
        refused("ruleOf, no rule", INDEX, clock -> clock.ruleOf(3, 0));
        refused("ruleOf(0, 4)", ARGUMENT, clock -> clock.ruleOf(0, 4));
        refused("count(12)", ARGUMENT, clock -> clock.count(12));
        refused("entry(-1, 0)", ARGUMENT, clock -> clock.entry(-1, 0));
        refused("entry(0, -1)", ARGUMENT, clock -> clock.entry(0, -1));
    }

    private static void refusedForesight() {
        refused("outIn", INDEX, clock -> clock.outIn(4));
        refused("lasts, no cord", INDEX, clock -> clock.lasts(4, 1, 0));
        refused("lasts, three flames", ARGUMENT, clock -> clock.lasts(0, 3, 0));
        refused("lasts, way 2", ARGUMENT, clock -> clock.lasts(0, 1, 2));
        refused("tellable, four cords", ARGUMENT, clock -> clock.tellable(15, 0));
        refused("tellable, rank -2", ARGUMENT, clock -> clock.tellable(1, -2));
        refused("fewestFlames, four cords", ARGUMENT, clock -> clock.fewestFlames(15, 1));
        refused("fewestFlames, time 0", ARGUMENT, clock -> clock.fewestFlames(1, 0));
    }

    private static void refusedCallsOfANewClock() {
        Twins.refused("cord", CordClock::new, clock -> clock.cord(7, 1), ARGUMENT);
        Twins.refused("uneven", CordClock::new, clock -> clock.uneven(0, 0, 1), INDEX);
        Twins.refused("renew", CordClock::new, clock -> clock.renew(0), INDEX);
        Twins.refused("light", CordClock::new, clock -> clock.light(0, true), INDEX);
        Twins.refused("putOut", CordClock::new, clock -> clock.putOut(0, true), INDEX);
        Twins.refused("rule", CordClock::new, clock -> clock.rule(0, 1, true), INDEX);
        Twins.refused("run", CordClock::new, clock -> clock.run(0), ARGUMENT);
        Twins.refused("append", CordClock::new, clock -> clock.append(127), ARGUMENT);
        Twins.refused("execute", CordClock::new, CordClock::execute, ARGUMENT);
        Twins.refused("undo", CordClock::new, CordClock::undo, STATE);
        Twins.refused("keep", CordClock::new, clock -> clock.keep(2), ARGUMENT);
        Twins.refused("goBack", CordClock::new, clock -> clock.goBack(0), STATE);
        Twins.refused("tellable", CordClock::new, clock -> clock.tellable(1, 0), ARGUMENT);
    }

    // ---- "If more than one exception applies to a call, the one that its throws clause lists first is thrown."

    private static void firstOfCord() {
        for (CordClock clock : new CordClock[] {busy(), full()}) {
            Check.dueThrow("five cords alone", () -> clock.cord(1, 1), STATE);
            Check.dueThrow("segments and five cords", () -> clock.cord(0, 1), ARGUMENT);
            Check.dueThrow("segments and five cords", () -> clock.cord(7, 60), ARGUMENT);
            Check.dueThrow("time and five cords", () -> clock.cord(1, 0), ARGUMENT);
            Check.dueThrow("time and five cords", () -> clock.cord(6, 61), ARGUMENT);
        }
    }

    private static void firstOfUneven() {
        CordClock clock = busy();
        Check.dueThrow("cord and time", () -> clock.uneven(4, 0, 0), INDEX);
        Check.dueThrow("cord and time", () -> clock.uneven(-1, 0, 61), INDEX);
        Check.dueThrow("segment and time", () -> clock.uneven(3, 2, 61), INDEX);
        Check.dueThrow("segment and flame", () -> clock.uneven(0, 2, 1), INDEX);
        Check.dueThrow("segment and burned part", () -> clock.uneven(2, 1, 1), INDEX);
        Check.dueThrow("segment, time and flame", () -> clock.uneven(0, -1, 0), INDEX);
        Check.dueThrow("time and flame", () -> clock.uneven(0, 0, 0), ARGUMENT);
        Check.dueThrow("time and burned out", () -> clock.uneven(1, 0, 61), ARGUMENT);
        Check.dueThrow("time and burned part", () -> clock.uneven(2, 0, 61), ARGUMENT);
        Check.dueThrow("flame alone", () -> clock.uneven(0, 0, 1), STATE);
    }

    private static void firstOfRule() {
        CordClock clock = full();
        Check.dueThrow("no cords and both the same", () -> clock.rule(4, 4, true), INDEX);
        Check.dueThrow("no cords and both the same", () -> clock.rule(-1, -1, true), INDEX);
        Check.dueThrow("no cord is out, and eight rules", () -> clock.rule(4, 0, true), INDEX);
        Check.dueThrow("no cord is lit, and eight rules", () -> clock.rule(0, 4, true), INDEX);
        Check.dueThrow("both the same, and eight rules", () -> clock.rule(2, 2, true), ARGUMENT);
        Check.dueThrow("eight rules alone", () -> clock.rule(2, 3, true), STATE);
        CordClock free = busy();
        Check.dueThrow("no cords and both the same", () -> free.rule(4, 4, true), INDEX);
        Check.dueThrow("both the same alone", () -> free.rule(2, 2, true), ARGUMENT);
    }

    private static void firstOfAppend() {
        CordClock clock = full();
        Check.dueThrows("code and 60 characters", clock::append, ARGUMENT, 32, 127, -1, 0, Ask.LOW, Ask.HIGH);
        Check.dueThrows("60 characters alone", clock::append, STATE, 33, 126);
    }

    private static void firstOfGoBack() {
        CordClock clock = new CordClock();
        Check.dueThrows("no slot, and no snapshot", clock::goBack, ARGUMENT, -1, 2, Ask.LOW, Ask.HIGH);
        Check.dueThrows("no snapshot alone", clock::goBack, STATE, 0, 1);
    }

    private static void firstOfQueries() {
        CordClock clock = busy();
        Check.dueThrow("cordOf, cord and what", () -> clock.cordOf(4, 8), INDEX);
        Check.dueThrow("cordOf, cord and what", () -> clock.cordOf(-1, -1), INDEX);
        Check.dueThrow("cordOf, what alone", () -> clock.cordOf(3, 8), ARGUMENT);
        Check.dueThrow("ruleOf, rule and what", () -> clock.ruleOf(3, 4), INDEX);
        Check.dueThrow("ruleOf, rule and what", () -> clock.ruleOf(-1, -1), INDEX);
        Check.dueThrow("ruleOf, what alone", () -> clock.ruleOf(2, 4), ARGUMENT);
        Check.dueThrow("lasts, cord and flames", () -> clock.lasts(4, 0, 0), INDEX);
        Check.dueThrow("lasts, cord and way", () -> clock.lasts(-1, 1, 2), INDEX);
        Check.dueThrow("lasts, cord, flames and way", () -> clock.lasts(4, 3, -1), INDEX);
        Check.dueThrow("lasts, flames alone", () -> clock.lasts(3, 3, 0), ARGUMENT);
        Check.dueThrow("lasts, burned out and flames", () -> clock.lasts(1, 0, 0), ARGUMENT);
    }

    private static void firstOfLightAndPutOut() {
        for (boolean left : new boolean[] {true, false}) {
            for (int cord : new int[] {-1, 4}) {
                Check.dueThrow("light, no cord, so no flame", () -> busy().light(cord, left), INDEX);
                Check.dueThrow("putOut, no cord, so no flame", () -> busy().putOut(cord, left), INDEX);
            }
        }
    }

    // ---- the constant, and what changes nothing

    private static void none() {
        Check.due("NONE", CordClock.NONE, -1);
        CordClock clock = Ask.clockOf("new:1;new:1;lit:0L;run:1");
        Check.due("never out", clock.cordOf(1, 7), CordClock.NONE);
        Check.due("no front", clock.front(0, true), CordClock.NONE);
        Check.due("no entry", clock.entry(2, 0), CordClock.NONE);
        Check.due("will not be out", clock.outIn(1), CordClock.NONE);
        Check.due("not so many times", clock.tellable(1, 1), CordClock.NONE);
        Check.due("how many times", clock.tellable(1, CordClock.NONE), 1);
        Check.due("cannot be told", clock.fewestFlames(1, 2), CordClock.NONE);
    }

    private static void askQueries(CordClock clock) {
        for (int i = -1; i <= 12; i++) {
            int what = i;
            Check.answer(() -> clock.count(what));
            for (int k = -1; k <= 8; k++) {
                int other = k;
                Check.answer(() -> clock.cordOf(what, other));
                Check.answer(() -> clock.segment(what, other));
                Check.answer(() -> clock.front(what, other > 0));
                Check.answer(() -> clock.ruleOf(what, other));
                Check.answer(() -> clock.entry(what, other));
            }
        }
    }

    private static void askForesight(CordClock clock) {
        for (int i = -1; i <= 4; i++) {
            int cord = i;
            Check.answer(() -> clock.outIn(cord));
            for (int k = 0; k < 4; k++) {
                int flames = 1 + k / 2;
                int way = k % 2;
                Check.answer(() -> clock.lasts(cord, flames, way));
            }
        }
        for (int i = -1; i <= 16; i++) {
            int cords = i;
            Check.answer(() -> clock.tellable(cords, 2));
            Check.answer(() -> clock.tellable(cords, CordClock.NONE));
            Check.answer(() -> clock.fewestFlames(cords, 9));
        }
        clock.burned();
    }

    private static void queriesChangeNothing() {
        Twins.unchanged("queries of a new clock", CordClock::new, ExceptionsEdgeTest::askQueries);
        Twins.unchanged("queries of a busy clock", ExceptionsEdgeTest::busy, ExceptionsEdgeTest::askQueries);
        Twins.unchanged("queries of a full clock", ExceptionsEdgeTest::full, ExceptionsEdgeTest::askQueries);
    }

    private static void foresightChangesNothing() {
        Twins.unchanged("foresight of a new clock", CordClock::new, ExceptionsEdgeTest::askForesight);
        Twins.unchanged("foresight of a busy clock", ExceptionsEdgeTest::busy, ExceptionsEdgeTest::askForesight);
        Twins.unchanged("foresight of a full clock", ExceptionsEdgeTest::full, ExceptionsEdgeTest::askForesight);
    }
}
