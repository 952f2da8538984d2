import java.io.IOException;

/** The boundary cases of each sentence of promises 1 to 9: a new object, cords, flames, rules, steps. */
public final class CordsEdgeTest {
    private static final Class<?> INDEX = IndexOutOfBoundsException.class;
    private static final Class<?> ARGUMENT = IllegalArgumentException.class;
    private static final Class<?> STATE = IllegalStateException.class;

    public static void main(String[] args) throws IOException {
        Sentences document = new Sentences(args, "Promise 1", "Promise 2", "Promise 3", "Promise 4", "Promise 5",
            "Promise 6", "Promise 7", "Promise 8", "Promise 9");
        document.test("Promise 1", "Creates a clock without cords", CordsEdgeTest::withoutCords);
        document.test("Promise 1", "Creates a clock without cords", CordsEdgeTest::eachObjectForItself);
        adding(document);
        changing(document);
        renewing(document);
        lighting(document);
        puttingOut(document);
        rules(document);
        dropping(document);
        running(document);
        document.end("CordsEdgeTest");
    }

    private static void adding(Sentences document) {
        document.test("Promise 2", "Adds a cord with equal segments", CordsEdgeTest::equalSegments);
        document.test("Promise 2", "Undoable", CordsEdgeTest::cordIsUndone);
        document.test("Promise 2", "- `segments`: 1 to 6", CordsEdgeTest::leastAndMostSegments);
        document.test("Promise 2", "- `time`: 1 to 60", CordsEdgeTest::leastAndMostTime);
        document.test("Promise 2", "Returns its number", CordsEdgeTest::numbersOfCords);
        document.test("Promise 2", "Throws `IllegalArgumentException`", CordsEdgeTest::cordOutOfRange);
        document.test("Promise 2", "Throws `IllegalStateException`", CordsEdgeTest::fifthCord);
    }

    private static void changing(Sentences document) {
        document.test("Promise 3", "Changes the time of a segment", CordsEdgeTest::changesOneSegment);
        document.test("Promise 3", "Undoable", CordsEdgeTest::unevenIsUndone);
        document.test("Promise 3", "- `cord`: its number", CordsEdgeTest::firstAndLastCordOfUneven);
        document.test("Promise 3", "- `segment`: the number", CordsEdgeTest::firstAndLastSegmentOfUneven);
        document.test("Promise 3", "- `time`: 1 to 60", CordsEdgeTest::leastAndMostTimeOfUneven);
        document.test("Promise 3", "Returns the previous time", CordsEdgeTest::previousTime);
        document.test("Promise 3", "Throws `IndexOutOfBoundsException`", CordsEdgeTest::noCordOrSegmentForUneven);
        document.test("Promise 3", "Throws `IllegalArgumentException`", CordsEdgeTest::timeOutOfRange);
        document.test("Promise 3", "Throws `IllegalStateException`", CordsEdgeTest::burnedPartOrFlame);
        document.test("Promise 3", "Throws `IllegalStateException`", CordsEdgeTest::neitherBurnedPartNorFlame);
    }

    private static void renewing(Sentences document) {
        document.test("Promise 4", "Makes a cord new again", CordsEdgeTest::newAgain);
        document.test("Promise 4", "Makes a cord new again", CordsEdgeTest::newAgainKeepsTheRest);
        document.test("Promise 4", "Undoable", CordsEdgeTest::renewIsUndone);
        document.test("Promise 4", "- `cord`: its number", CordsEdgeTest::firstAndLastCordOfRenew);
        document.test("Promise 4", "Returns how much of its time", CordsEdgeTest::noneToAllOfItsTime);
        document.test("Promise 4", "Throws `IndexOutOfBoundsException`", CordsEdgeTest::noCordForRenew);
    }

    private static void lighting(Sentences document) {
        document.test("Promise 5", "Lights an end of a cord", CordsEdgeTest::lightsAtOnce);
        document.test("Promise 5", "Undoable", CordsEdgeTest::lightIsUndone);
        document.test("Promise 5", "- `cord`: its number", CordsEdgeTest::firstAndLastCordOfLight);
        document.test("Promise 5", "- `left`: true", CordsEdgeTest::whichEndOfLight);
        document.test("Promise 5", "Returns how many flames", CordsEdgeTest::oneToEightFlames);
        document.test("Promise 5", "Throws `IndexOutOfBoundsException`", CordsEdgeTest::noCordForLight);
        document.test("Promise 5", "Throws `IllegalStateException`", CordsEdgeTest::flameThere);
        document.test("Promise 5", "Throws `IllegalStateException`", CordsEdgeTest::burnedOutForLight);
        document.test("Promise 5", "Throws `IllegalStateException`", CordsEdgeTest::oneStepBeforeItIsOut);
    }

    private static void puttingOut(Sentences document) {
        document.test("Promise 6", "Puts a flame out", CordsEdgeTest::putsOutAtOnce);
        document.test("Promise 6", "(The burned part stays.)", CordsEdgeTest::burnedPartStays);
        document.test("Promise 6", "Undoable", CordsEdgeTest::putOutIsUndone);
        document.test("Promise 6", "- `cord`: its number", CordsEdgeTest::firstAndLastCordOfPutOut);
        document.test("Promise 6", "- `left`: true", CordsEdgeTest::whichEndOfPutOut);
        document.test("Promise 6", "Returns how many flames", CordsEdgeTest::sevenToNoFlames);
        document.test("Promise 6", "Throws `IndexOutOfBoundsException`", CordsEdgeTest::noCordForPutOut);
        document.test("Promise 6", "Throws `IllegalStateException`", CordsEdgeTest::noSuchFlame);
    }

    private static void rules(Sentences document) {
        document.test("Promise 7", "Adds a rule", CordsEdgeTest::addsBehindTheOthers);
        document.test("Promise 7", "Undoable", CordsEdgeTest::ruleIsUndone);
        document.test("Promise 7", "- `out`: the cord", CordsEdgeTest::eachPairOfCords);
        document.test("Promise 7", "- `cord`: the cord", CordsEdgeTest::actsByItsOut);
        document.test("Promise 7", "- `left`: true", CordsEdgeTest::whichEndOfRule);
        document.test("Promise 7", "Returns the number", CordsEdgeTest::numbersOfRules);
        document.test("Promise 7", "Throws `IndexOutOfBoundsException`", CordsEdgeTest::noCordForRule);
        document.test("Promise 7", "Throws `IllegalArgumentException`", CordsEdgeTest::bothTheSame);
        document.test("Promise 7", "Throws `IllegalStateException`", CordsEdgeTest::ninthRule);
        document.test("Promise 7", "Throws `IllegalStateException`", CordsEdgeTest::rulesOfCordsThatAreOut);
    }

    private static void dropping(Sentences document) {
        document.test("Promise 8", "Drops all rules", CordsEdgeTest::noRuleIsLeft);
        document.test("Promise 8", "Undoable", CordsEdgeTest::dropRulesIsUndone);
        document.test("Promise 8", "Returns how many", CordsEdgeTest::noneToEightRules);
    }

    private static void running(Sentences document) {
        document.test("Promise 9", "Lets steps pass", CordsEdgeTest::manyStepsAreAsManyRuns);
        document.test("Promise 9", "Undoable, as one call", CordsEdgeTest::runIsUndoneAsOne);
        document.test("Promise 9", "- `steps`: 1 to 200", CordsEdgeTest::leastAndMostSteps);
        document.test("Promise 9", "Returns how many signals", CordsEdgeTest::noneToFourSignals);
        document.test("Promise 9", "Throws `IllegalArgumentException`", CordsEdgeTest::stepsOutOfRange);
    }

    private static CordClock busy() {
        return Ask.clockOf("new:4.5;new:2;new:9;when:1,0R;lit:1L;lit:2L", "run:3");
    }

    private static CordClock fourCords() {
        return Ask.clockOf("new:3.4.5;new:6;new:7.8;new:9");
    }

    // ---- promise 1

    private static void withoutCords() {
        CordClock clock = new CordClock();
        for (int what = 0; what < Ask.COUNTS; what++) {
            Check.due("count " + what, clock.count(what), 0);
        }
        Check.dueThrow("no cord", () -> clock.cordOf(0, 0), INDEX);
        Check.dueThrow("no rule", () -> clock.ruleOf(0, 0), INDEX);
        Check.due("no entry", clock.entry(0, 0), CordClock.NONE);
        Check.due("no time can be told", clock.tellable(0, CordClock.NONE), 0);
        Check.due("nothing burned", Float.floatToRawIntBits(clock.burned()), Float.floatToRawIntBits(0.0f));
        Check.due("steps pass without cords", clock.run(200), 0);
        Check.due("the first cord", clock.cord(1, 1), 0);
    }

    private static void eachObjectForItself() {
        CordClock one = new CordClock();
        CordClock other = new CordClock();
        one.cord(1, 5);
        one.keep(0);
        one.append('r');
        one.tellable(1, 0);
        Check.dueText("the other is new", Ask.all(other), Ask.all(new CordClock()));
        Check.dueThrow("its slot is empty", () -> other.goBack(0), STATE);
        Check.dueThrow("it has no saved state", () -> other.undo(), STATE);
    }

    // ---- promise 2

    private static void equalSegments() {
        for (int segments = 1; segments <= 6; segments++) {
            CordClock clock = new CordClock();
            clock.cord(segments, 60);
            Check.due("segments", clock.cordOf(0, 1), segments);
            Check.due("time", clock.cordOf(0, 0), 60 * segments);
            for (int i = 0; i < segments; i++) {
                Check.due("segment " + i, clock.segment(0, i), 60);
            }
            int[] rest = {0, 0, 60 * segments, 0, 0, CordClock.NONE};
            for (int i = 0; i < rest.length; i++) {
                Check.due("number " + (i + 2), clock.cordOf(0, i + 2), rest[i]);
            }
        }
    }

    private static void cordIsUndone() {
        Twins.undoable("the first cord", CordClock::new, clock -> clock.cord(6, 60));
        Twins.undoable("the fourth cord", CordsEdgeTest::busy, clock -> clock.cord(1, 1));
    }

    private static void leastAndMostSegments() {
        CordClock clock = new CordClock();
        Check.due("one", clock.cord(1, 7), 0);
        Check.due("six", clock.cord(6, 7), 1);
        Check.due("one segment", clock.cordOf(0, 0), 7);
        Check.due("six segments", clock.cordOf(1, 0), 42);
        Check.dueThrows("segments", segments -> clock.cord(segments, 7), ARGUMENT, 0, 7);
    }

    private static void leastAndMostTime() {
        CordClock clock = new CordClock();
        Check.due("the least", clock.cord(2, 1), 0);
        Check.due("the most", clock.cord(2, 60), 1);
        Check.due("one each", clock.cordOf(0, 0), 2);
        Check.due("sixty each", clock.cordOf(1, 0), 120);
        Check.dueThrows("time", time -> clock.cord(2, time), ARGUMENT, 0, 61);
    }

    private static void numbersOfCords() {
        CordClock clock = new CordClock();
        for (int i = 0; i < 4; i++) {
            Check.due("number", clock.cord(i + 1, 1), i);
        }
        clock.undo();
        clock.undo();
        Check.due("number behind two undoes", clock.cord(1, 1), 2);
    }

    private static void cordOutOfRange() {
        CordClock clock = new CordClock();
        int[] wrong = {0, -1, -6, Ask.LOW, Ask.HIGH, 256 + 1, 65536 + 1};
        Check.dueThrows("segments", segments -> clock.cord(segments, 1), ARGUMENT, wrong);
        Check.dueThrows("segments", segments -> clock.cord(segments, 60), ARGUMENT, 7, 8, 60);
        Check.dueThrows("time", time -> clock.cord(1, time), ARGUMENT, wrong);
        Check.dueThrows("time", time -> clock.cord(6, time), ARGUMENT, 61, 62, 360);
        Check.dueThrow("both", () -> clock.cord(0, 61), ARGUMENT);
        Check.due("cords", clock.count(1), 0);
    }

    private static void fifthCord() {
        Twins.refused("the fifth cord", CordsEdgeTest::fourCords, clock -> clock.cord(1, 1), STATE);
        CordClock clock = Ask.clockOf("new:3;new:4;new:5");
        Check.due("the fourth one is added", clock.cord(1, 1), 3);
        Check.dueThrow("the fifth one is not", () -> clock.cord(1, 1), STATE);
    }

    // ---- promise 3

    private static void changesOneSegment() {
        CordClock clock = fourCords();
        clock.uneven(0, 1, 60);
        Check.due("before it", clock.segment(0, 0), 3);
        Check.due("itself", clock.segment(0, 1), 60);
        Check.due("behind it", clock.segment(0, 2), 5);
        Check.due("the cord's time", clock.cordOf(0, 0), 68);
        Check.due("the time that is left", clock.cordOf(0, 4), 68);
        Check.due("another cord", clock.segment(2, 1), 8);
        clock.light(0, true);
        Check.due("it burns as long", clock.outIn(0), 68);
    }

    private static void unevenIsUndone() {
        Twins.undoable("uneven", CordsEdgeTest::fourCords, clock -> clock.uneven(2, 1, 60));
        Twins.undoable("uneven with the same time", CordsEdgeTest::fourCords, clock -> clock.uneven(2, 1, 8));
    }

    private static void firstAndLastCordOfUneven() {
        CordClock clock = fourCords();
        Check.due("the first cord", clock.uneven(0, 0, 1), 3);
        Check.due("the last cord", clock.uneven(3, 0, 1), 9);
        Check.dueThrows("cord", cord -> clock.uneven(cord, 0, 1), INDEX, -1, 4);
    }

    private static void firstAndLastSegmentOfUneven() {
        CordClock clock = Ask.clockOf("new:1.2.3.4.5.6;new:7");
        Check.due("the first segment", clock.uneven(0, 0, 9), 1);
        Check.due("the last segment", clock.uneven(0, 5, 9), 6);
        Check.due("the only segment", clock.uneven(1, 0, 9), 7);
        Check.dueThrows("segment", segment -> clock.uneven(0, segment, 1), INDEX, -1, 6);
        Check.dueThrows("segment", segment -> clock.uneven(1, segment, 1), INDEX, -1, 1, 5);
    }

    private static void leastAndMostTimeOfUneven() {
        CordClock clock = fourCords();
        clock.uneven(0, 0, 1);
        Check.due("the least", clock.segment(0, 0), 1);
        clock.uneven(0, 0, 60);
        Check.due("the most", clock.segment(0, 0), 60);
        Check.dueThrows("time", time -> clock.uneven(0, 0, time), ARGUMENT, 0, 61);
    }

    private static void previousTime() {
        CordClock clock = fourCords();
        Check.due("the time that it came with", clock.uneven(3, 0, 60), 9);
        Check.due("the time that it was changed to", clock.uneven(3, 0, 1), 60);
        Check.due("the same time", clock.uneven(3, 0, 1), 1);
        clock.undo();
        clock.undo();
        Check.due("undone", clock.uneven(3, 0, 2), 60);
    }

    private static void noCordOrSegmentForUneven() {
        int[] wrong = {-1, 6, 7, Ask.LOW, Ask.HIGH, 256, 65536};
        CordClock clock = fourCords();
        Check.dueThrows("cord", cord -> clock.uneven(cord, 0, 1), INDEX, wrong);
        Check.dueThrows("segment", segment -> clock.uneven(0, segment, 1), INDEX, wrong);
        Check.dueThrow("a segment that another cord has", () -> clock.uneven(2, 2, 1), INDEX);
        Check.dueThrow("neither cord nor segment", () -> clock.uneven(4, 9, 1), INDEX);
        Check.dueThrow("no cord at all", () -> new CordClock().uneven(0, 0, 1), INDEX);
        CordClock undone = Ask.clockOf("new:1", "new:2.3");
        undone.undo();
        Check.dueThrow("a cord that was undone", () -> undone.uneven(1, 0, 1), INDEX);
        Twins.refused("uneven", CordsEdgeTest::fourCords, twin -> twin.uneven(3, 1, 1), INDEX);
    }

    private static void timeOutOfRange() {
        CordClock clock = fourCords();
        Check.dueThrows("time", time -> clock.uneven(0, 2, time), ARGUMENT, 0, 61, -1, Ask.LOW, Ask.HIGH, 256 + 1, 65536 + 1);
        Check.due("the segment", clock.segment(0, 2), 5);
    }

    private static void burnedPartOrFlame() {
        for (String ends : new String[] {"lit:0L", "lit:0R", "lit:0L;lit:0R"}) {
            CordClock flame = Ask.clockOf("new:3.4;" + ends);
            Check.dueThrow("a flame alone, " + ends, () -> flame.uneven(0, 0, 1), STATE);
            CordClock part = Ask.clockOf("new:3.4;" + ends + ";run:1");
            Check.dueThrow("a flame and a burned part, " + ends, () -> part.uneven(0, 1, 1), STATE);
            Check.answer(() -> part.putOut(0, true));
            Check.answer(() -> part.putOut(0, false));
            Check.due("flames", part.count(3), 0);
            Check.dueThrow("a burned part alone, " + ends, () -> part.uneven(0, 0, 3), STATE);
            CordClock out = Ask.clockOf("new:3.4;" + ends + ";run:200");
            Check.dueThrow("burned out, " + ends, () -> out.uneven(0, 0, 1), STATE);
        }
    }

    private static void neitherBurnedPartNorFlame() {
        CordClock clock = Ask.clockOf("new:3.4;new:5;lit:1L;run:200");
        Check.due("never lit", clock.uneven(0, 0, 9), 3);
        clock.light(0, true);
        clock.putOut(0, true);
        Check.due("lit and put out before a step", clock.uneven(0, 0, 3), 9);
        clock.renew(1);
        Check.due("renewed", clock.uneven(1, 0, 6), 5);
    }

    // ---- promise 4

    private static void newAgain() {
        for (int steps : new int[] {1, 3, 200}) {
            CordClock clock = Ask.clockOf("new:4.5;lit:0L;lit:0R;run:" + steps);
            clock.renew(0);
            int[] want = {9, 2, 0, 0, 9, 0, 0};
            for (int what = 0; what < want.length; what++) {
                Check.due("number " + what, clock.cordOf(0, what), want[what]);
            }
            Check.due("left front", clock.front(0, true), 0);
            Check.due("right front", clock.front(0, false), 1);
            Check.due("flames", clock.count(3), 0);
            Check.due("cords that are out", clock.count(4), 0);
            Check.due("it can be lit", clock.light(0, true), 1);
            Check.due("it burns as long as at first", clock.outIn(0), 9);
        }
    }

    private static void newAgainKeepsTheRest() {
        CordClock clock = Ask.clockOf("new:4.5;new:9;when:0,1L;lit:0L;lit:0R;run:7");
        String book = Ask.book(clock);
        clock.renew(0);
        Check.due("out last", clock.cordOf(0, 7), 5);
        Check.dueText("book", Ask.book(clock), book);
        Check.due("signals", clock.count(5), 1);
        Check.due("lightings", clock.count(6), 3);
        Check.due("rules", clock.count(2), 1);
        Check.due("the flame of another cord", clock.cordOf(1, 5), 1);
        Check.due("the part of another cord", clock.cordOf(1, 2), 2);
        clock.uneven(0, 1, 60);
        clock.light(0, false);
        clock.renew(0);
        Check.due("a changed segment", clock.segment(0, 1), 60);
    }

    private static void renewIsUndone() {
        Twins.undoable("renew of a burning cord", CordsEdgeTest::busy, clock -> clock.renew(2));
        Twins.undoable("renew of a cord that is out", CordsEdgeTest::busy, clock -> clock.renew(1));
        Twins.undoable("renew of a new cord", CordsEdgeTest::fourCords, clock -> clock.renew(3));
    }

    private static void firstAndLastCordOfRenew() {
        CordClock clock = fourCords();
        Ask.execute(clock, "lit:0L;lit:3R;run:2");
        Check.due("the first cord", clock.renew(0), 2);
        Check.due("the last cord has its flame", clock.cordOf(3, 5), 2);
        Check.due("the last cord", clock.renew(3), 2);
        Check.dueThrows("cord", clock::renew, INDEX, -1, 4);
    }

    private static void noneToAllOfItsTime() {
        CordClock clock = Ask.clockOf("new:60.60.60.60.60.60;new:1;new:5");
        Check.due("none", clock.renew(0), 0);
        Ask.execute(clock, "lit:0L;lit:1R;lit:2L;lit:2R;run:1");
        Check.due("one step of one side", clock.renew(0), 1);
        Check.due("all of the least time", clock.renew(1), 1);
        Check.due("one step of both sides", clock.renew(2), 2);
        Ask.execute(clock, "lit:0L;lit:0R;run:180");
        Check.due("all of the greatest time", clock.renew(0), 360);
        Check.due("none again", clock.renew(0), 0);
    }

    private static void noCordForRenew() {
        CordClock clock = fourCords();
        Check.dueThrows("cord", clock::renew, INDEX, -1, 4, 5, Ask.LOW, Ask.HIGH, 256, 65536);
        Check.dueThrow("no cord at all", () -> new CordClock().renew(0), INDEX);
        Twins.refused("renew", CordsEdgeTest::busy, twin -> twin.renew(3), INDEX);
    }

    // ---- promise 5

    private static void lightsAtOnce() {
        CordClock clock = Ask.clockOf("new:2;run:5");
        clock.light(0, true);
        Check.due("a flame", clock.cordOf(0, 5), 1);
        Check.due("nothing burned yet", clock.cordOf(0, 4), 2);
        Check.due("no step passed", clock.count(0), 5);
        Check.due("lightings", clock.count(6), 1);
        Check.dueText("entry", Ask.entry(clock, 0), "lit L 0@5");
        clock.putOut(0, true);
        clock.light(0, true);
        Check.due("each lighting counts", clock.count(6), 2);
        Check.due("each lighting has its entry", clock.count(9), 2);
    }

    private static void lightIsUndone() {
        Twins.undoable("the left end", CordsEdgeTest::busy, clock -> clock.light(0, true));
        Twins.undoable("the right end", CordsEdgeTest::busy, clock -> clock.light(2, false));
    }

    private static void firstAndLastCordOfLight() {
        CordClock clock = fourCords();
        clock.light(0, true);
        clock.light(3, true);
        int[] want = {1, 0, 0, 1};
        for (int cord = 0; cord < 4; cord++) {
            Check.due("flames of cord " + cord, clock.cordOf(cord, 5), want[cord]);
        }
        Check.dueThrows("cord", cord -> clock.light(cord, true), INDEX, -1, 4);
    }

    private static void whichEndOfLight() {
        CordClock clock = fourCords();
        clock.light(0, true);
        clock.light(1, false);
        Check.due("left", clock.cordOf(0, 5), 1);
        Check.due("right", clock.cordOf(1, 5), 2);
        Check.dueText("book", Ask.book(clock), "lit R 1@0, lit L 0@0");
        clock.run(2);
        Check.due("left part", clock.cordOf(0, 2), 2);
        Check.due("right part", clock.cordOf(1, 3), 2);
    }

    private static void oneToEightFlames() {
        CordClock clock = fourCords();
        for (int i = 0; i < 8; i++) {
            Check.due("flames", clock.light(3 - i / 2, i % 2 == 0), i + 1);
        }
        Check.due("of all cords", clock.count(3), 8);
    }

    private static void noCordForLight() {
        CordClock clock = fourCords();
        for (boolean left : new boolean[] {true, false}) {
            Check.dueThrows("cord", cord -> clock.light(cord, left), INDEX, -1, 4, 5, Ask.LOW, Ask.HIGH, 256, 65536);
            Check.dueThrow("no cord at all", () -> new CordClock().light(0, left), INDEX);
            Twins.refused("light", CordsEdgeTest::busy, twin -> twin.light(3, left), INDEX);
        }
    }

    private static void flameThere() {
        for (boolean left : new boolean[] {true, false}) {
            CordClock clock = Ask.clockOf("new:9");
            Check.due("lit", clock.light(0, left), 1);
            Check.dueThrow("again", () -> clock.light(0, left), STATE);
            Check.due("the other end", clock.light(0, !left), 2);
            Check.dueThrow("again, with two flames", () -> clock.light(0, left), STATE);
            clock.putOut(0, left);
            Check.due("put out before", clock.light(0, left), 2);
            clock.run(1);
            Check.dueThrow("a flame that burned", () -> clock.light(0, left), STATE);
        }
        Twins.refused("light", CordsEdgeTest::busy, twin -> twin.light(2, true), STATE);
        Twins.refused("light where a rule lit", CordsEdgeTest::busy, twin -> twin.light(0, false), STATE);
    }

    private static void burnedOutForLight() {
        for (boolean left : new boolean[] {true, false}) {
            CordClock clock = Ask.clockOf("new:3;lit:0" + (left ? "L" : "R") + ";run:3");
            Check.dueThrow("the end that burned", () -> clock.light(0, left), STATE);
            Check.dueThrow("the other end", () -> clock.light(0, !left), STATE);
            clock.renew(0);
            Check.due("renewed", clock.light(0, left), 1);
            Twins.refused("light", CordsEdgeTest::busy, twin -> twin.light(1, left), STATE);
        }
    }

    private static void oneStepBeforeItIsOut() {
        CordClock clock = Ask.clockOf("new:3;lit:0L;run:2");
        Check.due("the other end", clock.light(0, false), 2);
        clock.putOut(0, true);
        Check.due("the end that burned", clock.light(0, true), 2);
        Check.due("signal", clock.run(1), 1);
    }

    // ---- promise 6

    private static void putsOutAtOnce() {
        CordClock clock = Ask.clockOf("new:9;lit:0L;run:2");
        Check.due("flames", clock.putOut(0, true), 0);
        Check.due("its flames", clock.cordOf(0, 5), 0);
        clock.run(200);
        Check.due("it does not burn", clock.cordOf(0, 2), 2);
        Check.due("no signal", clock.count(5), 0);
        Check.due("no entry of it", clock.count(9), 1);
        Check.due("smoke", clock.count(7), 2);
    }

    private static void burnedPartStays() {
        for (int steps : new int[] {1, 2, 8}) {
            CordClock clock = Ask.clockOf("new:9;new:9;lit:0L;lit:1R;run:" + steps);
            clock.putOut(0, true);
            clock.putOut(1, false);
            Check.due("left part", clock.cordOf(0, 2), steps);
            Check.due("right part", clock.cordOf(1, 3), steps);
            clock.light(0, true);
            clock.run(1);
            Check.due("it burns on from there", clock.cordOf(0, 2), steps + 1);
        }
    }

    private static void putOutIsUndone() {
        Twins.undoable("the left flame", CordsEdgeTest::busy, clock -> clock.putOut(2, true));
        Twins.undoable("the right flame", CordsEdgeTest::busy, clock -> clock.putOut(0, false));
    }

    private static void firstAndLastCordOfPutOut() {
        CordClock clock = fourCords();
        Ask.execute(clock, "lit:0L;lit:3R");
        Check.due("the last cord", clock.putOut(3, false), 1);
        Check.due("the first cord", clock.putOut(0, true), 0);
        Check.dueThrows("cord", cord -> clock.putOut(cord, true), INDEX, -1, 4);
    }

    private static void whichEndOfPutOut() {
        CordClock clock = Ask.clockOf("new:9;new:9;lit:0L;lit:0R;lit:1L;lit:1R");
        clock.putOut(0, true);
        clock.putOut(1, false);
        Check.due("the right one burns", clock.cordOf(0, 5), 2);
        Check.due("the left one burns", clock.cordOf(1, 5), 1);
    }

    private static void sevenToNoFlames() {
        CordClock clock = fourCords();
        Ask.execute(clock, "lit:0L;lit:0R;lit:1L;lit:1R;lit:2L;lit:2R;lit:3L;lit:3R");
        for (int i = 0; i < 8; i++) {
            Check.due("flames", clock.putOut(i / 2, i % 2 == 0), 7 - i);
        }
        Check.due("of all cords", clock.count(3), 0);
    }

    private static void noCordForPutOut() {
        CordClock clock = fourCords();
        for (boolean left : new boolean[] {true, false}) {
            Check.dueThrows("cord", cord -> clock.putOut(cord, left), INDEX, -1, 4, 5, Ask.LOW, Ask.HIGH, 256, 65536);
            Check.dueThrow("no cord at all", () -> new CordClock().putOut(0, left), INDEX);
            Twins.refused("putOut", CordsEdgeTest::busy, twin -> twin.putOut(3, left), INDEX);
        }
    }

    private static void noSuchFlame() {
        for (boolean left : new boolean[] {true, false}) {
            CordClock clock = Ask.clockOf("new:2;new:9");
            Check.dueThrow("never lit", () -> clock.putOut(0, left), STATE);
            clock.light(0, !left);
            Check.dueThrow("the other flame alone", () -> clock.putOut(0, left), STATE);
            clock.light(0, left);
            clock.light(1, left);
            Check.due("a flame", clock.putOut(0, left), 2);
            Check.dueThrow("put out before", () -> clock.putOut(0, left), STATE);
            clock.run(2);
            Check.dueThrow("burned out", () -> clock.putOut(0, !left), STATE);
            Check.due("the flame of another cord", clock.putOut(1, left), 0);
        }
        Twins.refused("the right one", CordsEdgeTest::busy, twin -> twin.putOut(2, false), STATE);
        Twins.refused("the left one", CordsEdgeTest::busy, twin -> twin.putOut(0, true), STATE);
    }

    // ---- promises 7 and 8

    private static void addsBehindTheOthers() {
        CordClock clock = fourCords();
        clock.rule(0, 1, true);
        clock.rule(3, 2, false);
        int[][] want = {{0, 1, 1, 0}, {3, 2, 0, 0}};
        for (int rule = 0; rule < 2; rule++) {
            for (int what = 0; what < 4; what++) {
                Check.due("rule " + rule + ", " + what, clock.ruleOf(rule, what), want[rule][what]);
            }
        }
        Check.due("no flame of it yet", clock.count(3), 0);
    }

    private static void ruleIsUndone() {
        Twins.undoable("the second rule", CordsEdgeTest::busy, clock -> clock.rule(0, 1, true));
        Twins.undoable("the first rule", CordsEdgeTest::fourCords, clock -> clock.rule(0, 1, true));
    }

    private static void eachPairOfCords() {
        for (int out = 0; out < 4; out++) {
            for (int cord = 0; cord < 4; cord++) {
                CordClock clock = fourCords();
                if (out != cord) {
                    Check.due("number", clock.rule(out, cord, out < cord), 0);
                    Check.due("out", clock.ruleOf(0, 0), out);
                    Check.due("lit", clock.ruleOf(0, 1), cord);
                }
            }
        }
    }

    private static void actsByItsOut() {
        for (int out = 0; out < 4; out += 3) {
            CordClock clock = Ask.clockOf("new:1;new:1;new:1;new:1");
            int cord = 3 - out;
            clock.rule(out, cord, false);
            clock.light(out, true);
            clock.run(1);
            Check.due("the cord that is lit", clock.cordOf(cord, 5), 2);
            Check.due("flames", clock.count(3), 1);
            clock.run(1);
            Check.due("both are out", clock.count(4), 9);
        }
    }

    private static void whichEndOfRule() {
        CordClock clock = Ask.clockOf("new:1;new:9;new:9");
        clock.rule(0, 1, true);
        clock.rule(0, 2, false);
        clock.light(0, true);
        clock.run(1);
        Check.due("left", clock.cordOf(1, 5), 1);
        Check.due("right", clock.cordOf(2, 5), 2);
    }

    private static void numbersOfRules() {
        CordClock clock = fourCords();
        for (int i = 0; i < 8; i++) {
            Check.due("number", clock.rule(2, 1, true), i);
        }
        clock.undo();
        clock.undo();
        Check.due("number behind two undoes", clock.rule(2, 1, true), 6);
        clock.dropRules();
        Check.due("number behind dropRules", clock.rule(2, 1, true), 0);
    }

    private static void noCordForRule() {
        CordClock clock = fourCords();
        int[] wrong = {-1, 4, 5, Ask.LOW, Ask.HIGH, 256, 65536};
        Check.dueThrows("out", out -> clock.rule(out, 0, true), INDEX, wrong);
        Check.dueThrows("cord", cord -> clock.rule(0, cord, true), INDEX, wrong);
        Check.dueThrow("neither", () -> clock.rule(4, 5, true), INDEX);
        Check.dueThrow("no cord at all", () -> new CordClock().rule(0, 1, true), INDEX);
        Twins.refused("rule", CordsEdgeTest::busy, twin -> twin.rule(0, 3, true), INDEX);
        Twins.refused("rule", CordsEdgeTest::busy, twin -> twin.rule(3, 0, true), INDEX);
    }

    private static void bothTheSame() {
        for (int cord = 0; cord < 4; cord++) {
            int both = cord;
            CordClock clock = fourCords();
            Check.dueThrow("left", () -> clock.rule(both, both, true), ARGUMENT);
            Check.dueThrow("right", () -> clock.rule(both, both, false), ARGUMENT);
            Twins.refused("rule", CordsEdgeTest::fourCords, twin -> twin.rule(both, both, true), ARGUMENT);
        }
    }

    private static CordClock eightRules() {
        return Ask.clockOf("new:1;new:9", "when:0,1L;when:0,1R;when:1,0L;when:1,0R", "when:0,1L;when:0,1R;when:1,0L;when:1,0R");
    }

    private static void ninthRule() {
        Twins.refused("the ninth rule", CordsEdgeTest::eightRules, clock -> clock.rule(0, 1, true), STATE);
        CordClock clock = eightRules();
        clock.undo();
        for (int i = 4; i < 8; i++) {
            Check.due("up to the eighth", clock.rule(0, 1, true), i);
        }
        Check.dueThrow("the ninth", () -> clock.rule(0, 1, true), STATE);
    }

    private static void rulesOfCordsThatAreOut() {
        CordClock clock = Ask.clockOf("new:1;new:2;lit:0L;lit:1L;run:2");
        Check.due("both are out already", clock.rule(0, 1, true), 0);
        clock.run(1);
        Check.due("it lights nothing", clock.ruleOf(0, 3), 0);
    }

    private static void noRuleIsLeft() {
        CordClock clock = eightRules();
        clock.dropRules();
        Check.due("rules", clock.count(2), 0);
        Check.dueThrows("rule", rule -> clock.ruleOf(rule, 0), INDEX, 0, 1, 7, 8, -1);
        clock.light(0, true);
        clock.run(1);
        Check.due("none acts", clock.count(3), 0);
        Check.due("lightings", clock.count(6), 1);
        Check.due("room again", clock.rule(0, 1, false), 0);
    }

    private static void dropRulesIsUndone() {
        Twins.undoable("dropRules of eight", CordsEdgeTest::eightRules, clock -> clock.dropRules());
        Twins.undoable("dropRules of a rule that lit", CordsEdgeTest::busy, clock -> clock.dropRules());
        Twins.undoable("dropRules of none", CordsEdgeTest::fourCords, clock -> clock.dropRules());
        CordClock clock = busy();
        clock.dropRules();
        clock.rule(2, 0, true);
        clock.undo();
        clock.undo();
        Check.due("how often the old one lit", clock.ruleOf(0, 3), 1);
    }

    private static void noneToEightRules() {
        for (int rules = 0; rules <= 8; rules++) {
            CordClock clock = fourCords();
            for (int i = 0; i < rules; i++) {
                clock.rule(0, 1, true);
            }
            Check.due("rules", clock.dropRules(), rules);
            Check.due("then", clock.dropRules(), 0);
        }
    }

    // ---- promise 9

    private static void manyStepsAreAsManyRuns() {
        for (int steps : new int[] {1, 2, 9, 30, 200}) {
            CordClock one = Ask.clockOf("new:4.5;new:2;new:9.50;when:1,0R;when:0,2L;lit:1L;lit:1R");
            CordClock many = Ask.clockOf("new:4.5;new:2;new:9.50;when:1,0R;when:0,2L;lit:1L;lit:1R");
            int signals = 0;
            for (int i = 0; i < steps; i++) {
                signals += many.run(1);
            }
            Check.due("signals", one.run(steps), signals);
            Check.dueText("state after " + steps, Ask.state(one), Ask.state(many));
        }
    }

    private static void runIsUndoneAsOne() {
        Twins.undoable("one step", CordsEdgeTest::busy, clock -> clock.run(1));
        Twins.undoable("200 steps", CordsEdgeTest::busy, clock -> clock.run(200));
        Twins.undoable("steps of a new clock", CordClock::new, clock -> clock.run(7));
    }

    private static void leastAndMostSteps() {
        CordClock clock = new CordClock();
        clock.run(1);
        Check.due("one", clock.count(0), 1);
        clock.run(200);
        Check.due("two hundred", clock.count(0), 201);
        Check.dueThrows("steps", clock::run, ARGUMENT, 0, 201);
    }

    private static void noneToFourSignals() {
        CordClock clock = Ask.clockOf("new:1;new:2;new:2;new:4", "lit:0L;lit:1L;lit:2L;lit:3L");
        Check.due("one", clock.run(1), 1);
        Check.due("two in a step", clock.run(1), 2);
        Check.due("none", clock.run(1), 0);
        Check.due("one", clock.run(1), 1);
        Check.due("none any more", clock.run(200), 0);
        CordClock all = Ask.clockOf("new:1;new:2;new:2;new:4", "lit:0L;lit:1L;lit:2L;lit:3L");
        Check.due("four in one call", all.run(4), 4);
        CordClock rules = Ask.clockOf("new:1;new:1;new:1;new:1", "when:0,1L;when:1,2L;when:2,3L;lit:0L");
        Check.due("signals of what rules lit", rules.run(200), 4);
    }

    private static void stepsOutOfRange() {
        for (int steps : new int[] {0, 201, -1, -200, Ask.LOW, Ask.HIGH, 256 + 1, 65536 + 1}) {
            Twins.refused("run(" + steps + ")", CordsEdgeTest::busy, clock -> clock.run(steps), ARGUMENT);
        }
    }
}
