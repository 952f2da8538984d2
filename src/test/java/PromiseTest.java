/** For each promise: ordinary inputs, the edges that the document names, and wrong inputs. */
public final class PromiseTest {
    private static final Class<?> INDEX = IndexOutOfBoundsException.class;
    private static final Class<?> ARGUMENT = IllegalArgumentException.class;
    private static final Class<?> STATE = IllegalStateException.class;
    private static final int LOW = Ask.LOW;
    private static final int HIGH = Ask.HIGH;

    public static void main(String[] args) {
        newObject();
        cord();
        uneven();
        renew();
        light();
        putOut();
        rule();
        dropRules();
        run();
        runWithRules();
        append();
        clearBuffer();
        firstErrorOfWords();
        firstErrorOfNumbers();
        execute();
        executeInPart();
        undo();
        undoOfEachMethod();
        keep();
        goBack();
        cordOf();
        segment();
        front();
        ruleOf();
        count();
        gaps();
        entry();
        outIn();
        lasts();
        tellable();
        fewestFlames();
        burned();
        wrongCallsChangeNothing();
        Check.end("PromiseTest");
    }

    // ---- promise 1

    private static void newObject() {
        CordClock clock = new CordClock();
        for (int what = 0; what < Ask.COUNTS; what++) {
            Check.due("count of a new clock", clock.count(what), 0);
        }
        Check.due("NONE", CordClock.NONE, -1);
        Check.dueThrow("no cord", () -> clock.cordOf(0, 0), INDEX);
        Check.dueThrow("no rule", () -> clock.ruleOf(0, 0), INDEX);
        Check.dueThrow("no saved state", () -> clock.undo(), STATE);
        Check.dueThrow("no snapshot", () -> clock.goBack(0), STATE);
        Check.dueThrow("no snapshot", () -> clock.goBack(1), STATE);
    }

    // ---- promise 2

    private static void cord() {
        CordClock clock = new CordClock();
        for (int wrong : new int[] {0, 7, -1, LOW, HIGH}) {
            Check.dueThrow("segments", () -> clock.cord(wrong, 1), ARGUMENT);
        }
        for (int wrong : new int[] {0, 61, -1, LOW, HIGH}) {
            Check.dueThrow("time", () -> clock.cord(1, wrong), ARGUMENT);
        }
        Check.due("first cord", clock.cord(1, 60), 0);
        Check.due("second cord", clock.cord(6, 1), 1);
        Check.due("third cord", clock.cord(6, 60), 2);
        Check.due("fourth cord", clock.cord(3, 7), 3);
        Check.due("time", clock.cordOf(2, 0), 360);
        Check.due("time", clock.cordOf(3, 0), 21);
        Check.due("segments", clock.cordOf(3, 1), 3);
        Check.due("never out", clock.cordOf(3, 7), CordClock.NONE);
        Check.dueThrow("fifth cord", () -> clock.cord(1, 1), STATE);
        Check.dueThrow("wrong fifth cord", () -> clock.cord(0, 1), ARGUMENT);
        Check.due("saved", clock.count(10), 4);
        Check.due("undo", clock.undo(), 3);
        Check.due("cords", clock.count(1), 3);
        Check.due("fourth cord again", clock.cord(1, 2), 3);
        Check.due("its time", clock.cordOf(3, 0), 2);
        Check.due("its segments", clock.cordOf(3, 1), 1);
    }

    // ---- promise 3

    private static void uneven() {
        CordClock clock = Ask.clockOf("new:5.6.7;new:8");
        Check.dueThrow("cord", () -> clock.uneven(2, 0, 1), INDEX);
        Check.dueThrow("cord", () -> clock.uneven(-1, 0, 1), INDEX);
        Check.dueThrow("cord", () -> clock.uneven(HIGH, 0, 0), INDEX);
        Check.dueThrow("segment", () -> clock.uneven(0, 3, 1), INDEX);
        Check.dueThrow("segment", () -> clock.uneven(0, -1, 0), INDEX);
        Check.dueThrow("segment", () -> clock.uneven(1, 1, 1), INDEX);
        Check.dueThrow("time", () -> clock.uneven(0, 0, 0), ARGUMENT);
        Check.dueThrow("time", () -> clock.uneven(0, 0, 61), ARGUMENT);
        Check.due("previous", clock.uneven(0, 1, 60), 6);
        Check.due("time", clock.cordOf(0, 0), 72);
        Check.due("previous", clock.uneven(0, 1, 1), 60);
        Check.due("time", clock.cordOf(0, 0), 13);
        Check.due("saved", clock.count(10), 3);
        clock.light(0, false);
        Check.dueThrow("flame", () -> clock.uneven(0, 0, 1), STATE);
        Check.dueThrow("time before flame", () -> clock.uneven(0, 0, 61), ARGUMENT);
        clock.putOut(0, false);
        Check.due("lit, but not burned", clock.uneven(0, 2, 7), 7);
        clock.light(0, false);
        clock.run(1);
        clock.putOut(0, false);
        Check.dueThrow("burned part", () -> clock.uneven(0, 0, 1), STATE);
        Check.due("another cord", clock.uneven(1, 0, 3), 8);
        clock.renew(0);
        Check.due("after renew", clock.uneven(0, 0, 2), 5);
    }

    // ---- promise 4

    private static void renew() {
        CordClock clock = Ask.clockOf("new:5.6;lit:0L;lit:0R;run:3");
        Check.dueThrow("cord", () -> clock.renew(1), INDEX);
        Check.dueThrow("cord", () -> clock.renew(-1), INDEX);
        Check.due("burned", clock.renew(0), 6);
        Check.due("left part", clock.cordOf(0, 2), 0);
        Check.due("right part", clock.cordOf(0, 3), 0);
        Check.due("flames", clock.count(3), 0);
        Check.due("time", clock.cordOf(0, 0), 11);
        Check.due("burned", clock.renew(0), 0);
        Check.due("saved", clock.count(10), 3);
        clock.undo();
        clock.undo();
        Check.due("left part", clock.cordOf(0, 2), 3);
        Check.due("flames", clock.cordOf(0, 5), 3);
        clock.run(200);
        Check.due("burned", clock.renew(0), 11);
        Check.due("out last", clock.cordOf(0, 7), 6);
        Check.dueText("no entry of renew", Ask.entry(clock, 0), "out 0@6");
        Check.due("lit again", clock.light(0, true), 1);
    }

    // ---- promise 5

    private static void light() {
        CordClock clock = Ask.clockOf("new:2;new:9");
        Check.dueThrow("cord", () -> clock.light(2, true), INDEX);
        Check.dueThrow("cord", () -> clock.light(LOW, true), INDEX);
        Check.due("flames", clock.light(0, true), 1);
        Check.due("flames", clock.light(1, false), 2);
        Check.due("which", clock.cordOf(1, 5), 2);
        Check.dueThrow("flame there", () -> clock.light(0, true), STATE);
        Check.dueThrow("flame there", () -> clock.light(1, false), STATE);
        Check.due("flames", clock.light(0, false), 3);
        Check.due("lightings", clock.count(6), 3);
        Check.dueText("book", Ask.book(clock), "lit R 0@0, lit R 1@0, lit L 0@0");
        Check.due("saved", clock.count(10), 4);
        clock.run(1);
        Check.dueThrow("burned out", () -> clock.light(0, true), STATE);
        Check.dueThrow("burned out", () -> clock.light(0, false), STATE);
        Check.due("flames", clock.light(1, true), 2);
        Check.dueText("entry", Ask.entry(clock, 0), "lit L 1@1");
    }

    // ---- promise 6

    private static void putOut() {
        CordClock clock = Ask.clockOf("new:9;new:9;lit:0L;lit:0R;lit:1L;run:2");
        Check.dueThrow("cord", () -> clock.putOut(2, true), INDEX);
        Check.dueThrow("cord", () -> clock.putOut(-1, true), INDEX);
        Check.dueThrow("no flame", () -> clock.putOut(1, false), STATE);
        Check.due("flames", clock.putOut(0, true), 2);
        Check.due("which", clock.cordOf(0, 5), 2);
        Check.dueThrow("no flame", () -> clock.putOut(0, true), STATE);
        Check.due("burned part", clock.cordOf(0, 2), 2);
        clock.run(1);
        Check.due("burned part", clock.cordOf(0, 2), 2);
        Check.due("other side", clock.cordOf(0, 3), 3);
        Check.due("flames", clock.putOut(0, false), 1);
        Check.due("saved", clock.count(10), 4);
        Check.due("entries", clock.count(9), 3);
        Check.due("lightings", clock.count(6), 3);
        clock.undo();
        Check.due("flame again", clock.cordOf(0, 5), 2);
    }

    // ---- promise 7

    private static void rule() {
        CordClock clock = Ask.clockOf("new:9;new:9");
        Check.dueThrow("cord", () -> clock.rule(0, 2, true), INDEX);
        Check.dueThrow("cord", () -> clock.rule(2, 0, true), INDEX);
        Check.dueThrow("cord", () -> clock.rule(-1, 0, true), INDEX);
        Check.dueThrow("cord", () -> clock.rule(0, -1, true), INDEX);
        Check.dueThrow("cord before same", () -> clock.rule(2, 2, true), INDEX);
        Check.dueThrow("same", () -> clock.rule(1, 1, true), ARGUMENT);
        for (int i = 0; i < 8; i++) {
            Check.due("rule", clock.rule(i % 2, 1 - i % 2, i % 3 == 0), i);
        }
        Check.dueThrow("ninth", () -> clock.rule(0, 1, true), STATE);
        Check.dueThrow("same before ninth", () -> clock.rule(0, 0, true), ARGUMENT);
        Check.dueThrow("cord before ninth", () -> clock.rule(0, 5, true), INDEX);
        Check.due("rules", clock.count(2), 8);
        Check.due("saved", clock.count(10), 6);
        clock.undo();
        Check.due("rules", clock.count(2), 7);
    }

    // ---- promise 8

    private static void dropRules() {
        CordClock clock = Ask.clockOf("new:1;new:9;when:0,1L;lit:0L;run:1");
        Check.due("lit", clock.ruleOf(0, 3), 1);
        Check.due("dropped", clock.dropRules(), 1);
        Check.due("rules", clock.count(2), 0);
        Check.dueThrow("no rule", () -> clock.ruleOf(0, 0), INDEX);
        Check.due("dropped", clock.dropRules(), 0);
        Check.due("saved", clock.count(10), 3);
        Check.due("new rule", clock.rule(0, 1, true), 0);
        Check.due("lit nothing yet", clock.ruleOf(0, 3), 0);
        clock.undo();
        clock.undo();
        clock.undo();
        Check.due("rule again", clock.ruleOf(0, 3), 1);
    }

    // ---- promise 9

    private static void run() {
        CordClock clock = Ask.clockOf("new:3.2;new:4;lit:0L;lit:0R;lit:1R");
        for (int wrong : new int[] {0, 201, -1, LOW, HIGH}) {
            Check.dueThrow("steps", () -> clock.run(wrong), ARGUMENT);
        }
        Check.due("signals", clock.run(2), 0);
        Check.due("left", clock.cordOf(0, 4), 1);
        Check.due("signals", clock.run(1), 1);
        Check.due("the left flame burns first", clock.cordOf(0, 2), 3);
        Check.due("the right one does not burn", clock.cordOf(0, 3), 2);
        Check.due("no flames", clock.cordOf(0, 5), 0);
        Check.due("out at", clock.cordOf(0, 7), 3);
        Check.due("signals", clock.run(200), 1);
        Check.due("out at", clock.cordOf(1, 7), 4);
        Check.due("step", clock.count(0), 203);
        Check.due("signals", clock.count(5), 2);
        Check.due("saved", clock.count(10), 4);
        clock.undo();
        Check.due("as one call", clock.count(0), 3);
        CordClock both = Ask.clockOf("new:3;new:3;lit:1L;lit:0R;run:2");
        Check.due("two signals in a step", both.run(1), 2);
        Check.dueText("ascending", Ask.entry(both, 0) + Ask.entry(both, 1), "out 1@3out 0@3");
        Check.due("no more signals", both.run(5), 0);
    }

    private static void runWithRules() {
        CordClock clock = Ask.clockOf("new:2;new:2;new:9;when:0,1R;lit:0L;lit:1L");
        Ask.execute(clock, "when:1,2R;when:0,2R;when:0,2L;when:0,2L");
        Check.due("signals", clock.run(2), 2);
        Check.due("not out by this very step", clock.ruleOf(0, 3), 0);
        Check.due("a flame is there already", clock.ruleOf(1, 3), 0);
        Check.due("first in order", clock.ruleOf(2, 3), 1);
        Check.due("second in order", clock.ruleOf(3, 3), 1);
        Check.due("third in order", clock.ruleOf(4, 3), 0);
        Check.dueText("signal ahead of what it lights, and the next cord behind it", Ask.book(clock),
            "out 1@2, lit L 2@2, lit R 2@2, out 0@2, lit L 1@0, lit L 0@0");
        Check.due("lightings", clock.count(6), 4);
        Check.due("burns from the next step on", clock.cordOf(2, 4), 9);
        clock.run(4);
        Check.due("burns", clock.cordOf(2, 4), 1);
        clock.renew(0);
        clock.light(0, true);
        Check.due("signals", clock.run(2), 2);
        Check.due("a rule does not light what is out", clock.ruleOf(2, 3), 1);
    }

    // ---- promises 10 and 11

    private static void append() {
        CordClock clock = new CordClock();
        for (int wrong : new int[] {32, 127, -1, 0, LOW, HIGH, 65536 + 33}) {
            Check.dueThrow("code", () -> clock.append(wrong), ARGUMENT);
        }
        Check.due("length", clock.append(33), 1);
        Check.due("length", clock.append(126), 2);
        for (int i = 3; i <= 60; i++) {
            Check.due("length", clock.append('a'), i);
        }
        Check.dueThrow("full", () -> clock.append('a'), STATE);
        Check.dueThrow("code before full", () -> clock.append(32), ARGUMENT);
        Check.due("length", clock.count(11), 60);
        Check.due("not saved", clock.count(10), 0);
    }

    private static void clearBuffer() {
        CordClock clock = new CordClock();
        Check.due("empty", clock.clearBuffer(), 0);
        Ask.type(clock, "run:1");
        Check.due("length", clock.clearBuffer(), 5);
        Check.due("length", clock.count(11), 0);
        Check.dueThrow("nothing there", () -> clock.execute(), ARGUMENT);
        Check.due("executed", Ask.execute(clock, "run:2"), 1);
        Check.due("step", clock.count(0), 2);
        Check.due("not saved", clock.count(10), 1);
    }

    // ---- promise 12

    private static void errors(String[] texts, int before) {
        CordClock clock = new CordClock();
        for (String text : texts) {
            int want = before == CordClock.NONE ? text.length() : text.length() - 1;
            Check.due("firstError of " + text, Ask.firstError(clock, text), want);
        }
    }

    private static void firstErrorOfWords() {
        errors(new String[] {"", "n", "new", "new:", "new:1.", "lit", "lit:", "lit:3", "lit:3R", "l", "w", "whe",
            "when:", "when:1", "when:1,", "when:1,1", "when:0,3L", "r", "run:", "run:1;", "run:1;n",
            "lit:0L;when:2,2R;new:1"}, CordClock.NONE);
        // The last character is the first error.
        errors(new String[] {"x", ";", "N", "ru:", "run;", "run:;", "ln", "wha", "lit:4", "lit:0l", "lit:0LR",
            "lit:0;", "lit:-", "when:0L", "when:0;", "when:4", "when:0,4", "when:0,1,", "when:0,1L,", "new:1;;",
            "new:1,", "new:.", "new:1..", "run:1.", "run:1;1"}, 1);
        CordClock clock = new CordClock();
        Check.due("only the first", Ask.firstError(clock, "rxn:?"), 1);
        Ask.type(clock, "lit:0");
        Check.due("changes nothing", clock.firstError() * 10 + clock.firstError(), 55);
        Check.due("length", clock.count(11), 5);
    }

    private static void firstErrorOfNumbers() {
        errors(new String[] {"new:60", "new:59", "new:6.60", "new:10", "new:1.2.3.4.5.6", "new:1.1.1.1.1.60",
            "run:200", "run:199", "run:20", "run:99", "run:1", "run:100"}, CordClock.NONE);
        errors(new String[] {"new:0", "new:61", "new:70", "new:9.0", "new:600", "new:100", "new:1.1.1.1.1.1.",
            "new:1.1.1.1.1.61", "run:0", "run:201", "run:210", "run:300", "run:2000"}, 1);
        Check.due("in the second order", Ask.firstError(new CordClock(), "run:200;run:201;x"), 14);
    }

    // ---- promise 13

    private static void execute() {
        CordClock clock = new CordClock();
        Check.dueThrow("empty", () -> clock.execute(), ARGUMENT);
        for (String text : new String[] {"run", "run:", "run:1;", "lit:0", "when:0,1", "new:1.", "run:201", "run:1x"}) {
            Ask.type(clock, text);
            Check.dueThrow(text, () -> clock.execute(), ARGUMENT);
            Check.due("buffer stays", clock.clearBuffer(), text.length());
        }
        Check.due("not saved", clock.count(10), 0);
        Check.due("executed", Ask.execute(clock, "new:60.1.20;new:3.4;when:1,0R;lit:1L;lit:1R;run:5"), 6);
        Check.due("buffer", clock.count(11), 0);
        Check.due("saved as one", clock.count(10), 1);
        Check.dueText("state", Ask.state(clock),
            "5 2 1 1 2 1 3 5 0 4 / cord 81 3 0 1 80 2 0 -1 60.1.20.02/ cord 7 2 4 3 0 0 1 4 3.4.-1-1"
            + "/ rule 1 0 0 1 / lit R 0@4, out 1@4, lit R 1@0, lit L 1@0");
        clock.undo();
        Check.due("cords", clock.count(1), 0);
        Check.due("buffer is not restored", clock.count(11), 0);
        String most = "run:1;run:1;run:1;run:1;run:1;run:1;run:1;run:1;run:1;run:10";
        Check.due("60 characters", most.length(), 60);
        Check.due("executed", Ask.execute(clock, most), 10);
        Check.due("step", clock.count(0), 19);
    }

    private static void executeInPart() {
        CordClock clock = new CordClock();
        Check.due("five cords", Ask.execute(clock, "new:1;new:1;new:1;new:1;new:1;run:1"), 4);
        Check.due("nothing behind it", clock.count(0), 0);
        Check.due("buffer", clock.count(11), 0);
        CordClock other = Ask.clockOf("new:1;new:2");
        Check.due("no such cord", Ask.execute(other, "lit:2L;run:1"), 0);
        Check.due("saved all the same", other.count(10), 2);
        Check.due("flame there", Ask.execute(other, "lit:0L;lit:0L"), 1);
        Check.due("burned out", Ask.execute(other, "run:1;lit:0R;run:1"), 1);
        Check.due("rule of no cord", Ask.execute(other, "when:0,2L"), 0);
        Check.due("rule of no cord", Ask.execute(other, "when:2,0L"), 0);
        Check.due("both the same", Ask.execute(other, "when:1,0R;when:1,1L;run:1"), 1);
        Check.due("six rules", Ask.execute(other, "when:0,1L;when:0,1L;when:0,1L;when:0,1L;when:0,1L;when:0,1L"), 6);
        Check.due("ninth rule", Ask.execute(other, "when:0,1R;when:0,1L;run:1"), 1);
        Check.due("rules", other.count(2), 8);
        Check.due("left end", other.ruleOf(1, 2), 1);
        Check.due("right end", other.ruleOf(7, 2), 0);
        Check.due("step", other.count(0), 1);
    }

    // ---- promises 14 to 16

    private static void undo() {
        CordClock clock = new CordClock();
        String[] states = new String[10];
        for (int i = 0; i < 10; i++) {
            states[i] = Ask.state(clock);
            clock.run(i + 1);
            Check.due("saved", clock.count(10), Math.min(i + 1, 6));
        }
        Ask.type(clock, "run");
        for (int left = 5; left >= 0; left--) {
            Check.due("left", clock.undo(), left);
            Check.dueText("state", Ask.state(clock), states[4 + left]);
        }
        Check.dueThrow("none left", () -> clock.undo(), STATE);
        Check.due("buffer stays", clock.count(11), 3);
        clock.run(1);
        clock.run(2);
        Check.due("left", clock.undo(), 1);
        Check.due("step", clock.count(0), 11);
    }

    private static void undoOfEachMethod() {
        CordClock clock = Ask.clockOf("new:4.5;new:2;when:1,0L;lit:0R;lit:1R;run:1");
        clock.keep(1);
        String[] states = {Ask.state(clock), "", "", "", "", ""};
        clock.run(1);
        states[1] = Ask.state(clock);
        clock.renew(1);
        states[2] = Ask.state(clock);
        clock.uneven(1, 0, 9);
        states[3] = Ask.state(clock);
        clock.cord(3, 6);
        states[4] = Ask.state(clock);
        Ask.execute(clock, "lit:2R;lit:1L;run:30;when:2,1L");
        states[5] = Ask.state(clock);
        clock.goBack(1);
        Check.dueText("the snapshot", Ask.state(clock), states[0]);
        for (int i = 5; i >= 0; i--) {
            clock.undo();
            Check.dueText("undone to " + i, Ask.state(clock), states[i]);
        }
        clock.light(0, true);
        clock.putOut(0, true);
        clock.dropRules();
        clock.rule(0, 1, false);
        Check.due("saved", clock.count(10), 4);
        for (int i = 0; i < 4; i++) {
            clock.undo();
        }
        Check.dueText("undone", Ask.state(clock), states[0]);
    }

    private static void keep() {
        CordClock clock = Ask.clockOf("new:9;lit:0L;run:2");
        for (int wrong : new int[] {2, -1, LOW, HIGH}) {
            Check.dueThrow("slot", () -> clock.keep(wrong), ARGUMENT);
        }
        Check.due("step", clock.keep(1), 2);
        Check.due("not saved", clock.count(10), 1);
        String kept = Ask.state(clock);
        clock.run(3);
        Check.dueThrow("other slot", () -> clock.goBack(0), STATE);
        Check.due("step", clock.keep(0), 5);
        clock.goBack(1);
        Check.dueText("state", Ask.state(clock), kept);
        Check.due("replaced", clock.keep(0), 2);
        clock.run(9);
        Check.due("replaced", clock.goBack(0), 2);
        clock.undo();
        clock.undo();
        clock.undo();
        clock.undo();
        clock.undo();
        Check.due("undo leaves snapshots", clock.goBack(1), 2);
    }

    private static void goBack() {
        CordClock clock = Ask.clockOf("new:9.2;lit:0R;run:4");
        for (int wrong : new int[] {2, -1, LOW, HIGH}) {
            Check.dueThrow("slot", () -> clock.goBack(wrong), ARGUMENT);
        }
        Check.dueThrow("empty", () -> clock.goBack(0), STATE);
        clock.keep(0);
        String kept = Ask.state(clock);
        clock.cord(1, 1);
        clock.rule(0, 1, true);
        clock.run(7);
        String later = Ask.state(clock);
        Ask.type(clock, "new:");
        Check.due("step", clock.goBack(0), 4);
        Check.dueText("state", Ask.state(clock), kept);
        Check.due("saved", clock.count(10), 5);
        Check.due("buffer stays", clock.count(11), 4);
        clock.undo();
        Check.dueText("undone", Ask.state(clock), later);
        clock.goBack(0);
        clock.run(1);
        Check.due("stays in its slot", clock.goBack(0), 4);
        Check.dueText("state", Ask.state(clock), kept);
    }

    // ---- promises 17 to 22

    private static void numbersOf(CordClock clock, int cord, int... want) {
        for (int what = 0; what < Ask.NUMBERS_OF_A_CORD; what++) {
            Check.due("cordOf(" + cord + ", " + what + ")", clock.cordOf(cord, what), want[what]);
        }
    }

    private static void cordOf() {
        CordClock clock = Ask.clockOf("new:4.5.6;new:3;lit:0L;lit:1R;run:2;lit:0R;run:1");
        numbersOf(clock, 0, 15, 3, 3, 1, 11, 3, 0, -1);
        numbersOf(clock, 1, 3, 1, 0, 3, 0, 0, 1, 3);
        clock.renew(1);
        numbersOf(clock, 1, 3, 1, 0, 0, 3, 0, 0, 3);
        clock.light(1, true);
        Check.due("left flame", clock.cordOf(1, 5), 1);
        clock.run(3);
        Check.due("out last", clock.cordOf(1, 7), 6);
        for (int wrong : new int[] {8, -1, LOW, HIGH}) {
            Check.dueThrow("what", () -> clock.cordOf(0, wrong), ARGUMENT);
        }
        for (int wrong : new int[] {2, -1, LOW, HIGH}) {
            Check.dueThrow("cord", () -> clock.cordOf(wrong, 8), INDEX);
        }
    }

    private static void segment() {
        CordClock clock = Ask.clockOf("new:4.5.6;new:3");
        Check.due("segment", clock.segment(0, 0), 4);
        Check.due("segment", clock.segment(0, 2), 6);
        Check.due("segment", clock.segment(1, 0), 3);
        clock.uneven(0, 2, 60);
        Check.due("segment", clock.segment(0, 2), 60);
        for (int wrong : new int[] {3, 6, -1, LOW, HIGH}) {
            Check.dueThrow("segment", () -> clock.segment(0, wrong), INDEX);
        }
        Check.dueThrow("segment", () -> clock.segment(1, 1), INDEX);
        Check.dueThrow("cord", () -> clock.segment(2, 0), INDEX);
        Check.dueThrow("cord", () -> clock.segment(-1, 0), INDEX);
        Check.due("not saved", clock.count(10), 2);
    }

    private static void front() {
        CordClock clock = Ask.clockOf("new:2.1.3");
        Check.dueThrow("cord", () -> clock.front(1, true), INDEX);
        Check.dueThrow("cord", () -> clock.front(-1, true), INDEX);
        Check.due("without a flame", clock.front(0, true), 0);
        Check.due("without a flame", clock.front(0, false), 2);
        clock.light(0, true);
        int[] left = {0, 1, 2, 2, 2, -1};
        for (int want : left) {
            clock.run(1);
            Check.due("left front", clock.front(0, true), want);
            Check.due("right front", clock.front(0, false), want == -1 ? -1 : 2);
        }
        clock.renew(0);
        clock.light(0, false);
        int[] right = {2, 2, 1, 0, 0, -1};
        for (int want : right) {
            clock.run(1);
            Check.due("right front", clock.front(0, false), want);
            Check.due("left front", clock.front(0, true), want == -1 ? -1 : 0);
        }
    }

    private static void ruleOf() {
        CordClock clock = Ask.clockOf("new:1;new:9;when:1,0L;when:0,1R;lit:0L;run:1");
        int[][] want = {{1, 0, 1, 0}, {0, 1, 0, 1}};
        for (int rule = 0; rule < 2; rule++) {
            for (int what = 0; what < Ask.NUMBERS_OF_A_RULE; what++) {
                Check.due("ruleOf(" + rule + ", " + what + ")", clock.ruleOf(rule, what), want[rule][what]);
            }
        }
        for (int wrong : new int[] {4, -1, LOW, HIGH}) {
            Check.dueThrow("what", () -> clock.ruleOf(0, wrong), ARGUMENT);
        }
        for (int wrong : new int[] {2, -1, LOW, HIGH}) {
            Check.dueThrow("rule", () -> clock.ruleOf(wrong, 4), INDEX);
        }
        clock.putOut(1, false);
        clock.renew(0);
        clock.light(0, false);
        clock.run(1);
        Check.due("twice", clock.ruleOf(1, 3), 2);
    }

    private static void count() {
        CordClock clock = Ask.clockOf("new:2;new:3;new:9;when:0,2L;lit:0L;lit:1R;run:3");
        clock.append('n');
        clock.renew(1);
        int[] want = {3, 3, 1, 1, 1, 2, 3, 3, 0, 5, 2, 1};
        for (int what = 0; what < Ask.COUNTS; what++) {
            Check.due("count(" + what + ")", clock.count(what), want[what]);
        }
        clock.light(1, true);
        clock.light(1, false);
        clock.run(2);
        Check.due("set of cords", clock.count(4), 3);
        for (int i = 0; i < 8; i++) {
            clock.renew(1);
            clock.light(1, true);
        }
        Check.due("the book knows 8", clock.count(9), 8);
        for (int wrong : new int[] {12, -1, LOW, HIGH}) {
            Check.dueThrow("what", () -> clock.count(wrong), ARGUMENT);
        }
    }

    private static void gaps() {
        CordClock clock = Ask.clockOf("new:2;run:3");
        Check.due("the gap that lasts", clock.count(8), 3);
        clock.run(2);
        Check.due("goes on", clock.count(8), 5);
        clock.light(0, true);
        Check.due("no step yet", clock.count(7), 0);
        clock.run(6);
        Check.due("the step of a signal has smoke", clock.count(7), 2);
        Check.due("a shorter one", clock.count(8), 5);
        clock.run(1);
        Check.due("as long", clock.count(8), 5);
        clock.run(1);
        Check.due("longer", clock.count(8), 6);
        clock.undo();
        Check.due("undone", clock.count(8), 5);
        clock.run(3);
        Check.due("as the gap was then", clock.count(8), 8);
    }

    private static void entry() {
        CordClock clock = Ask.clockOf("new:60;new:60;new:60;lit:2R;run:15;lit:2L;run:100");
        Check.dueText("latest", Ask.entry(clock, 0), "out 2@38");
        Check.dueText("before", Ask.entry(clock, 1), "lit L 2@15");
        Check.dueText("before", Ask.entry(clock, 2), "lit R 2@0");
        Check.due("blank", clock.entry(0, 3), 32);
        Check.due("behind the text", clock.entry(0, 8), CordClock.NONE);
        Check.due("behind the text", clock.entry(1, HIGH), CordClock.NONE);
        Check.due("behind the book", clock.entry(3, 0), CordClock.NONE);
        Check.due("behind the book", clock.entry(HIGH, HIGH), CordClock.NONE);
        for (int wrong : new int[] {-1, LOW}) {
            Check.dueThrow("ago", () -> clock.entry(wrong, 0), ARGUMENT);
            Check.dueThrow("index", () -> clock.entry(0, wrong), ARGUMENT);
            Check.dueThrow("index of no entry", () -> clock.entry(9, wrong), ARGUMENT);
        }
        for (int i = 0; i < 5; i++) {
            clock.light(0, i % 2 == 0);
            clock.run(1);
            clock.putOut(0, i % 2 == 0);
        }
        Check.dueText("eight", Ask.book(clock),
            "lit L 0@119, lit R 0@118, lit L 0@117, lit R 0@116, lit L 0@115, out 2@38, lit L 2@15, lit R 2@0");
        clock.light(1, false);
        Check.dueText("the oldest is forgotten", Ask.entry(clock, 7), "lit L 2@15");
        Check.due("behind the book", clock.entry(8, 0), CordClock.NONE);
    }

    // ---- promises 23 to 27

    private static void outIn() {
        CordClock clock = Ask.clockOf("new:10;new:7;new:5;when:0,1L;when:0,1R;when:1,2L");
        Check.due("no flame", clock.outIn(0), CordClock.NONE);
        clock.light(0, true);
        String before = Ask.all(clock);
        Check.due("one flame", clock.outIn(0), 10);
        Check.due("by rules", clock.outIn(1), 14);
        Check.due("by rules of rules", clock.outIn(2), 19);
        Check.dueText("changes nothing", Ask.all(clock), before);
        clock.run(12);
        Check.due("out now", clock.outIn(0), 0);
        Check.due("later", clock.outIn(1), 2);
        Check.dueThrow("cord", () -> clock.outIn(3), INDEX);
        Check.dueThrow("cord", () -> clock.outIn(-1), INDEX);
        CordClock longest = new CordClock();
        for (int i = 0; i < 4; i++) {
            longest.cord(6, 60);
        }
        Ask.execute(longest, "when:0,1L;when:1,2R;when:2,3L;lit:0L");
        Check.due("one after the other", longest.outIn(3), 1440);
        longest.dropRules();
        Check.due("rules are gone", longest.outIn(3), CordClock.NONE);
    }

    private static void lasts() {
        CordClock clock = Ask.clockOf("new:10.5;lit:0L;run:2");
        for (int way = 0; way < 2; way++) {
            int told = way;
            Check.due("one flame", clock.lasts(0, 1, way), 13);
            Check.due("two flames, rounded up", clock.lasts(0, 2, way), 7);
            Check.dueThrow("flames", () -> clock.lasts(0, 0, told), ARGUMENT);
            Check.dueThrow("flames", () -> clock.lasts(0, 3, told), ARGUMENT);
            Check.dueThrow("flames", () -> clock.lasts(0, LOW, told), ARGUMENT);
            Check.dueThrow("cord", () -> clock.lasts(1, 1, told), INDEX);
            Check.dueThrow("cord", () -> clock.lasts(-1, 3, told), INDEX);
        }
        Check.dueThrow("way", () -> clock.lasts(0, 1, 2), ARGUMENT);
        Check.dueThrow("way", () -> clock.lasts(0, 1, -1), ARGUMENT);
        clock.run(1);
        Check.due("two flames, even", clock.lasts(0, 2, 0), 6);
        Check.due("two flames, even", clock.lasts(0, 2, 1), 6);
        clock.run(12);
        Check.due("out", clock.lasts(0, 1, 0), 0);
        Check.due("out", clock.lasts(0, 2, 1), 0);
    }

    private static void told(CordClock clock, int cords, int... want) {
        Check.due("how many", clock.tellable(cords, CordClock.NONE), want.length);
        for (int rank = 0; rank < want.length; rank++) {
            Check.due("tellable(" + cords + ", " + rank + ")", clock.tellable(cords, rank), want[rank]);
        }
        Check.due("behind them", clock.tellable(cords, want.length), CordClock.NONE);
        Check.due("far behind them", clock.tellable(cords, HIGH), CordClock.NONE);
    }

    private static void tellable() {
        CordClock clock = Ask.clockOf("new:30.30;new:20.10.30;new:5;new:1");
        Ask.execute(clock, "when:0,1L;lit:0L;lit:2L;run:3");
        told(clock, 0);
        told(clock, 8, 1);
        told(clock, 4, 3, 5);
        told(clock, 3, 30, 45, 60, 90, 120);
        told(clock, 12, 1, 3, 4, 5, 6);
        String before = Ask.all(clock);
        Check.due("three cords", clock.tellable(7, 0), 3);
        Check.dueText("changes nothing", Ask.all(clock), before);
        for (int wrong : new int[] {15, 16, 17, -1, LOW, HIGH}) {
            Check.dueThrow("cords", () -> clock.tellable(wrong, 0), ARGUMENT);
        }
        Check.dueThrow("rank", () -> clock.tellable(1, -2), ARGUMENT);
        Check.dueThrow("rank", () -> clock.tellable(1, LOW), ARGUMENT);
        CordClock one = Ask.clockOf("new:1");
        Check.dueThrow("no such cord", () -> one.tellable(2, 0), ARGUMENT);
        Check.dueThrow("no such cord", () -> one.tellable(3, 0), ARGUMENT);
        told(one, 1, 1);
        CordClock longest = Ask.clockOf("new:60.60.60.60.60.60;new:60.60.60.60.60.60");
        longest.cord(6, 60);
        told(longest, 2, 180, 360);
        int last = longest.tellable(7, CordClock.NONE) - 1;
        Check.due("the greatest time", longest.tellable(7, last), 1080);
        Check.due("behind it", longest.tellable(7, last + 1), CordClock.NONE);
    }

    private static void fewestFlames() {
        CordClock clock = new CordClock();
        for (int i = 0; i < 4; i++) {
            clock.cord(6, 60);
        }
        Check.due("one", clock.fewestFlames(7, 360), 1);
        Check.due("one after the other", clock.fewestFlames(7, 1080), 3);
        Check.due("both ends", clock.fewestFlames(8, 180), 2);
        Check.due("half of the rest", clock.fewestFlames(3, 270), 4);
        Check.due("a quarter of a cord more", clock.fewestFlames(7, 450), 5);
        Check.due("cannot be told", clock.fewestFlames(7, 1079), CordClock.NONE);
        Check.due("no cords", clock.fewestFlames(0, 1), CordClock.NONE);
        for (int wrong : new int[] {0, 1081, -1, LOW, HIGH}) {
            Check.dueThrow("time", () -> clock.fewestFlames(1, wrong), ARGUMENT);
        }
        for (int wrong : new int[] {15, 16, -1, LOW, HIGH}) {
            Check.dueThrow("cords", () -> clock.fewestFlames(wrong, 1), ARGUMENT);
        }
        CordClock burning = Ask.clockOf("new:4;new:4;lit:0L;run:3");
        Check.due("as if new", burning.fewestFlames(1, 4), 1);
        Check.due("as if new", burning.fewestFlames(1, 1), CordClock.NONE);
        Check.due("cheapest of two ways", burning.fewestFlames(3, 4), 1);
        Check.due("the last lightings do not count", burning.fewestFlames(3, 2), 2);
    }

    private static void burned() {
        CordClock clock = new CordClock();
        dueFloat("no cords", clock.burned(), 0.0f);
        clock.cord(1, 7);
        dueFloat("nothing burned", clock.burned(), 0.0f);
        clock.light(0, true);
        clock.run(2);
        dueFloat("left side", clock.burned(), 2.0f / 7.0f);
        clock.cord(2, 3);
        clock.light(1, false);
        clock.light(1, true);
        clock.run(1);
        dueFloat("both sides", clock.burned(), 5.0f / 13.0f);
        clock.run(9);
        dueFloat("all", clock.burned(), 1.0f);
        clock.renew(1);
        dueFloat("renewed", clock.burned(), 7.0f / 13.0f);
    }

    private static void dueFloat(String what, float got, float want) {
        Check.due("burned(), " + what, Float.floatToRawIntBits(got), Float.floatToRawIntBits(want));
    }

    // ---- "A call that throws an exception changes nothing."

    private static void wrongCallsChangeNothing() {
        CordClock clock = Ask.clockOf("new:4.5;new:1;new:9;new:9;when:0,1L;lit:1L;run:3");
        Ask.type(clock, "new:1;");
        String before = Ask.all(clock);
        Check.dueThrow("cord", () -> clock.cord(1, 1), STATE);
        Check.dueThrow("uneven", () -> clock.uneven(1, 0, 1), STATE);
        Check.dueThrow("renew", () -> clock.renew(4), INDEX);
        Check.dueThrow("light", () -> clock.light(1, true), STATE);
        Check.dueThrow("putOut", () -> clock.putOut(0, true), STATE);
        Check.dueThrow("rule", () -> clock.rule(0, 0, true), ARGUMENT);
        Check.dueThrow("run", () -> clock.run(201), ARGUMENT);
        Check.dueThrow("append", () -> clock.append(32), ARGUMENT);
        Check.dueThrow("execute", () -> clock.execute(), ARGUMENT);
        Check.dueThrow("keep", () -> clock.keep(2), ARGUMENT);
        Check.dueThrow("goBack", () -> clock.goBack(1), STATE);
        Check.dueText("the state stays", Ask.all(clock), before);
    }
}
