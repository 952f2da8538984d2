import java.io.IOException;

/** The boundary cases of each sentence of promises 17 to 27: what is, and what would be. */
public final class QueriesEdgeTest {
    private static final Class<?> INDEX = IndexOutOfBoundsException.class;
    private static final Class<?> ARGUMENT = IllegalArgumentException.class;
    private static final int NONE = CordClock.NONE;
    private static final int[] ODD = {Ask.LOW, Ask.HIGH, 256, 65536};

    public static void main(String[] args) throws IOException {
        Sentences document = new Sentences(args, "Promise 17", "Promise 18", "Promise 19", "Promise 20", "Promise 21",
            "Promise 22", "Promise 23", "Promise 24", "Promise 25", "Promise 26", "Promise 27");
        ofCords(document);
        ofSegments(document);
        ofRules(document);
        counts(document);
        entries(document);
        outIn(document);
        lasts(document);
        tellable(document);
        fewestFlames(document);
        document.test("Promise 27", "Returns the share of the time", QueriesEdgeTest::noneToAllIsBurned);
        document.test("Promise 27", "Returns the burned time of all", QueriesEdgeTest::asFloats);
        document.test("Promise 27", "Returns the burned time of all", QueriesEdgeTest::burnedWithoutCords);
        document.end("QueriesEdgeTest");
    }

    private static void ofCords(Sentences document) {
        document.test("Promise 17", "Returns a number of a cord", QueriesEdgeTest::numbersOfANewCord);
        document.test("Promise 17", "- `cord`: its number", QueriesEdgeTest::firstAndLastCord);
        document.test("Promise 17", "- `what`: 0 its time", QueriesEdgeTest::timesAndParts);
        document.test("Promise 17", "- `what`: 0 its time", QueriesEdgeTest::flamesNoneToBoth);
        document.test("Promise 17", "- `what`: 0 its time", QueriesEdgeTest::burnedOutOrNot);
        document.test("Promise 17", "- `what`: 0 its time", QueriesEdgeTest::neverOutOnceTwice);
        document.test("Promise 17", "Returns the number.", QueriesEdgeTest::leastAndGreatestNumbers);
        document.test("Promise 17", "Throws `IndexOutOfBoundsException`", QueriesEdgeTest::noCordForCordOf);
        document.test("Promise 17", "Throws `IllegalArgumentException`", QueriesEdgeTest::what0To7);
    }

    private static void ofSegments(Sentences document) {
        document.test("Promise 18", "Returns the time of a segment", QueriesEdgeTest::timesOfSegments);
        document.test("Promise 18", "- `cord`: its number", QueriesEdgeTest::firstAndLastCordOfSegment);
        document.test("Promise 18", "- `segment`: the number", QueriesEdgeTest::firstAndLastSegment);
        document.test("Promise 18", "Returns the time.", QueriesEdgeTest::alsoOfBurnedSegments);
        document.test("Promise 18", "Throws `IndexOutOfBoundsException`", QueriesEdgeTest::noCordOrSegment);
        document.test("Promise 19", "Returns the segment in which", QueriesEdgeTest::frontsAtBorders);
        document.test("Promise 19", "Returns the segment in which", QueriesEdgeTest::frontsWithoutFlames);
        document.test("Promise 19", "- `cord`: its number", QueriesEdgeTest::firstAndLastCordOfFront);
        document.test("Promise 19", "- `left`: true", QueriesEdgeTest::whichSideOfFront);
        document.test("Promise 19", "Returns the number of the segment; NONE", QueriesEdgeTest::noFrontWhenOut);
        document.test("Promise 19", "Throws `IndexOutOfBoundsException`", QueriesEdgeTest::noCordForFront);
    }

    private static void ofRules(Sentences document) {
        document.test("Promise 20", "Returns a number of a rule", QueriesEdgeTest::numbersOfARule);
        document.test("Promise 20", "- `rule`: its number", QueriesEdgeTest::firstAndLastRule);
        document.test("Promise 20", "- `what`: 0 the cord", QueriesEdgeTest::howOftenItLit);
        document.test("Promise 20", "Returns the number.", QueriesEdgeTest::leastAndGreatestOfARule);
        document.test("Promise 20", "Throws `IndexOutOfBoundsException`", QueriesEdgeTest::noRule);
        document.test("Promise 20", "Throws `IllegalArgumentException`", QueriesEdgeTest::what0To3);
    }

    private static void counts(Sentences document) {
        document.test("Promise 21", "Returns a number.", QueriesEdgeTest::countsOfANewClock);
        document.test("Promise 21", "- `what`: 0 the number of the step", QueriesEdgeTest::mostOfEachCount);
        document.test("Promise 21", "- `what`: 0 the number of the step", QueriesEdgeTest::signalsAndLightingsSoFar);
        document.test("Promise 21", "- `what`: 0 the number of the step", QueriesEdgeTest::theGapThatLastsNow);
        document.test("Promise 21", "Returns the number.", QueriesEdgeTest::countsAfterUndo);
        document.test("Promise 21", "Throws `IllegalArgumentException`", QueriesEdgeTest::what0To11);
    }

    private static void entries(Sentences document) {
        document.test("Promise 22", "Returns a character", QueriesEdgeTest::eachCharacter);
        document.test("Promise 22", "- `ago`: 0 for the latest", QueriesEdgeTest::ago0To7);
        document.test("Promise 22", "- `index`: 0 for the first", QueriesEdgeTest::firstAndLastIndex);
        document.test("Promise 22", "Returns its code; NONE", QueriesEdgeTest::behindTheText);
        document.test("Promise 22", "Returns its code; NONE", QueriesEdgeTest::behindTheBook);
        document.test("Promise 22", "Throws `IllegalArgumentException`", QueriesEdgeTest::negativeAgoOrIndex);
    }

    private static void outIn(Sentences document) {
        document.test("Promise 23", "Tells in how many steps", QueriesEdgeTest::byFlamesAlone);
        document.test("Promise 23", "Tells in how many steps", QueriesEdgeTest::byRules);
        document.test("Promise 23", "Tells in how many steps", QueriesEdgeTest::asRunDoes);
        document.test("Promise 23", "- `cord`: its number", QueriesEdgeTest::firstAndLastCordOfOutIn);
        document.test("Promise 23", "Returns the number of steps", QueriesEdgeTest::oneStepToTheMost);
        document.test("Promise 23", "Returns the number of steps", QueriesEdgeTest::outNow);
        document.test("Promise 23", "Returns the number of steps", QueriesEdgeTest::willNotBeOut);
        document.test("Promise 23", "Throws `IndexOutOfBoundsException`", QueriesEdgeTest::noCordForOutIn);
    }

    private static void lasts(Sentences document) {
        document.test("Promise 24", "Tells how long", QueriesEdgeTest::whateverFlamesItHas);
        document.test("Promise 24", "- `cord`: its number", QueriesEdgeTest::firstAndLastCordOfLasts);
        document.test("Promise 24", "- `flames`: 1 or 2", QueriesEdgeTest::oneOrTwoFlames);
        document.test("Promise 24", "- `way`: 0 told", QueriesEdgeTest::bothWaysAreTheSame);
        document.test("Promise 24", "Returns the number of steps; 0", QueriesEdgeTest::lastsNothingWhenOut);
        document.test("Promise 24", "Throws `IndexOutOfBoundsException`", QueriesEdgeTest::noCordForLasts);
        document.test("Promise 24", "Throws `IllegalArgumentException`", QueriesEdgeTest::flamesOrWayOutOfRange);
    }

    private static void tellable(Sentences document) {
        document.test("Promise 25", "Returns a time", QueriesEdgeTest::timesInAscendingOrder);
        document.test("Promise 25", "- `cords`: a set", QueriesEdgeTest::noneToThreeCords);
        document.test("Promise 25", "- `rank`: NONE", QueriesEdgeTest::ranks);
        document.test("Promise 25", "Returns the number; NONE", QueriesEdgeTest::behindTheLastRank);
        document.test("Promise 25", "Throws `IllegalArgumentException`", QueriesEdgeTest::noSuchSetOfTellable);
        document.test("Promise 25", "Throws `IllegalArgumentException`", QueriesEdgeTest::rankBelowNone);
    }

    private static void fewestFlames(Sentences document) {
        document.test("Promise 26", "Returns the fewest lightings", QueriesEdgeTest::fewestOfSeveralPlans);
        document.test("Promise 26", "Returns the fewest lightings", QueriesEdgeTest::lightingsInTheToldStep);
        document.test("Promise 26", "- `cords`: as for", QueriesEdgeTest::setsOfFewestFlames);
        document.test("Promise 26", "- `time`: 1 to 1080", QueriesEdgeTest::times1To1080);
        document.test("Promise 26", "Returns the number of lightings; NONE", QueriesEdgeTest::oneToSixLightingsOrNone);
        document.test("Promise 26", "Throws `IllegalArgumentException`", QueriesEdgeTest::noSuchSetOrTime);
    }

    private static CordClock fourCords() {
        return Ask.clockOf("new:3.4.5;new:6;new:7.8;new:9");
    }

    private static CordClock longest() {
        CordClock clock = new CordClock();
        for (int i = 0; i < 4; i++) {
            clock.cord(6, 60);
        }
        return clock;
    }

    private static void numbers(CordClock clock, int cord, int... want) {
        for (int what = 0; what < want.length; what++) {
            Check.due("cordOf(" + cord + ", " + what + ")", clock.cordOf(cord, what), want[what]);
        }
    }

    // ---- promise 17

    private static void numbersOfANewCord() {
        numbers(fourCords(), 0, 12, 3, 0, 0, 12, 0, 0, NONE);
        numbers(fourCords(), 3, 9, 1, 0, 0, 9, 0, 0, NONE);
    }

    private static void firstAndLastCord() {
        CordClock clock = fourCords();
        Check.due("the first one", clock.cordOf(0, 0), 12);
        Check.due("the last one", clock.cordOf(3, 0), 9);
        Check.dueThrows("cord", cord -> clock.cordOf(cord, 0), INDEX, -1, 4);
        CordClock one = Ask.clockOf("new:1");
        Check.dueThrow("the cord behind the only one", () -> one.cordOf(1, 0), INDEX);
    }

    private static void timesAndParts() {
        CordClock clock = Ask.clockOf("new:4.5.6;lit:0L;run:3;lit:0R;run:1");
        numbers(clock, 0, 15, 3, 4, 1, 10, 3, 0, NONE);
        clock.run(4);
        numbers(clock, 0, 15, 3, 8, 5, 2, 3, 0, NONE);
        clock.run(1);
        numbers(clock, 0, 15, 3, 9, 6, 0, 0, 1, 9);
        clock.renew(0);
        numbers(clock, 0, 15, 3, 0, 0, 15, 0, 0, 9);
    }

    private static void flamesNoneToBoth() {
        CordClock clock = fourCords();
        Ask.execute(clock, "lit:1L;lit:2R;lit:3L;lit:3R");
        for (int cord = 0; cord < 4; cord++) {
            Check.due("flames of cord " + cord, clock.cordOf(cord, 5), cord);
        }
    }

    private static void burnedOutOrNot() {
        CordClock clock = Ask.clockOf("new:2;lit:0R;run:1");
        Check.due("one step before", clock.cordOf(0, 6), 0);
        clock.run(1);
        Check.due("out", clock.cordOf(0, 6), 1);
        clock.run(1);
        Check.due("out for good", clock.cordOf(0, 6), 1);
        clock.renew(0);
        Check.due("renewed", clock.cordOf(0, 6), 0);
    }

    private static void neverOutOnceTwice() {
        CordClock clock = Ask.clockOf("new:1;new:1;lit:0L");
        Check.due("never", clock.cordOf(0, 7), NONE);
        clock.run(3);
        Check.due("in the first step", clock.cordOf(0, 7), 1);
        Check.due("not the other one", clock.cordOf(1, 7), NONE);
        clock.renew(0);
        Check.due("renewed since", clock.cordOf(0, 7), 1);
        clock.light(0, false);
        Check.due("lit again", clock.cordOf(0, 7), 1);
        clock.run(9);
        Check.due("the last time", clock.cordOf(0, 7), 4);
        clock.undo();
        clock.undo();
        clock.undo();
        clock.undo();
        Check.due("undone: never", clock.cordOf(0, 7), NONE);
    }

    private static void leastAndGreatestNumbers() {
        CordClock clock = longest();
        Ask.execute(clock, "lit:0L;lit:1R;run:200;run:160");
        numbers(clock, 0, 360, 6, 360, 0, 0, 0, 1, 360);
        numbers(clock, 1, 360, 6, 0, 360, 0, 0, 1, 360);
        CordClock least = Ask.clockOf("new:1;lit:0R;run:1");
        numbers(least, 0, 1, 1, 0, 1, 0, 0, 1, 1);
    }

    private static void noCordForCordOf() {
        CordClock clock = fourCords();
        for (int what = 0; what < 8; what++) {
            int asked = what;
            Check.dueThrows("cord", cord -> clock.cordOf(cord, asked), INDEX, -1, 4, 5);
            Check.dueThrows("cord", cord -> clock.cordOf(cord, asked), INDEX, ODD);
            Check.dueThrow("no cord at all", () -> new CordClock().cordOf(0, asked), INDEX);
        }
    }

    private static void what0To7() {
        CordClock clock = fourCords();
        Check.due("the first", clock.cordOf(0, 0), 12);
        Check.due("the last", clock.cordOf(0, 7), NONE);
        Check.dueThrows("what", what -> clock.cordOf(3, what), ARGUMENT, -1, 8, 9);
        Check.dueThrows("what", what -> clock.cordOf(0, what), ARGUMENT, ODD);
    }

    // ---- promises 18 and 19

    private static void timesOfSegments() {
        CordClock clock = Ask.clockOf("new:1.60.2.59.3.58;new:7");
        int[] want = {1, 60, 2, 59, 3, 58};
        for (int i = 0; i < 6; i++) {
            Check.due("segment " + i, clock.segment(0, i), want[i]);
        }
        clock.uneven(0, 5, 1);
        Check.due("changed", clock.segment(0, 5), 1);
        clock.undo();
        Check.due("undone", clock.segment(0, 5), 58);
    }

    private static void firstAndLastCordOfSegment() {
        CordClock clock = fourCords();
        Check.due("the first one", clock.segment(0, 0), 3);
        Check.due("the last one", clock.segment(3, 0), 9);
        Check.dueThrows("cord", cord -> clock.segment(cord, 0), INDEX, -1, 4);
    }

    private static void firstAndLastSegment() {
        CordClock clock = fourCords();
        Check.due("the first one", clock.segment(0, 0), 3);
        Check.due("the last one", clock.segment(0, 2), 5);
        Check.dueThrows("segment", segment -> clock.segment(0, segment), INDEX, -1, 3);
        Check.dueThrows("segment of another cord", segment -> clock.segment(1, segment), INDEX, -1, 1, 2);
        CordClock six = Ask.clockOf("new:1.2.3.4.5.6");
        Check.due("the sixth one", six.segment(0, 5), 6);
        Check.dueThrow("the seventh one", () -> six.segment(0, 6), INDEX);
    }

    private static void alsoOfBurnedSegments() {
        CordClock clock = Ask.clockOf("new:2.3;lit:0L;run:2");
        Check.due("burned", clock.segment(0, 0), 2);
        Check.due("not burned", clock.segment(0, 1), 3);
        clock.run(200);
        Check.due("of a cord that is out", clock.segment(0, 1), 3);
    }

    private static void noCordOrSegment() {
        CordClock clock = fourCords();
        Check.dueThrows("cord", cord -> clock.segment(cord, 0), INDEX, ODD);
        Check.dueThrows("segment", segment -> clock.segment(0, segment), INDEX, ODD);
        Check.dueThrow("neither", () -> clock.segment(4, 6), INDEX);
        Check.dueThrow("no cord at all", () -> new CordClock().segment(0, 0), INDEX);
        CordClock undone = Ask.clockOf("new:1.2.3", "new:4.5");
        undone.undo();
        Check.dueThrow("a cord that was undone", () -> undone.segment(1, 0), INDEX);
        undone.cord(1, 9);
        Check.dueThrow("a segment of the one that was undone", () -> undone.segment(1, 1), INDEX);
    }

    private static void frontsAtBorders() {
        int[] times = {1, 2, 3, 1};
        CordClock left = Ask.clockOf("new:1.2.3.1;lit:0L");
        CordClock right = Ask.clockOf("new:1.3.2.1;lit:0R");
        for (int segment = 0; segment < 4; segment++) {
            for (int step = 0; step < times[segment]; step++) {
                Check.due("left front", left.front(0, true), segment);
                Check.due("right front", right.front(0, false), 3 - segment);
                left.run(1);
                right.run(1);
            }
        }
        Check.due("no left front", left.front(0, true), NONE);
        Check.due("no right front", right.front(0, false), NONE);
    }

    private static void frontsWithoutFlames() {
        CordClock clock = Ask.clockOf("new:2.2.2");
        Check.due("left, never lit", clock.front(0, true), 0);
        Check.due("right, never lit", clock.front(0, false), 2);
        Ask.execute(clock, "lit:0L;lit:0R;run:2");
        clock.putOut(0, true);
        clock.putOut(0, false);
        Check.due("left, put out", clock.front(0, true), 1);
        Check.due("right, put out", clock.front(0, false), 1);
    }

    private static void firstAndLastCordOfFront() {
        CordClock clock = fourCords();
        Ask.execute(clock, "lit:0L;lit:3L;run:3");
        Check.due("the first one", clock.front(0, true), 1);
        Check.due("the last one", clock.front(3, true), 0);
        Check.dueThrows("cord", cord -> clock.front(cord, true), INDEX, -1, 4);
    }

    private static void whichSideOfFront() {
        CordClock clock = Ask.clockOf("new:1.1.1.1.1.1;lit:0L;run:2");
        Check.due("left", clock.front(0, true), 2);
        Check.due("right", clock.front(0, false), 5);
        clock.light(0, false);
        clock.run(1);
        Check.due("left", clock.front(0, true), 3);
        Check.due("right", clock.front(0, false), 4);
    }

    private static void noFrontWhenOut() {
        for (String ends : new String[] {"lit:0L", "lit:0R", "lit:0L;lit:0R"}) {
            CordClock clock = Ask.clockOf("new:2.2;" + ends);
            int steps = clock.outIn(0);
            clock.run(steps - 1);
            Check.due("left, before it is out", clock.front(0, true) == NONE ? 1 : 0, 0);
            Check.due("right, before it is out", clock.front(0, false) == NONE ? 1 : 0, 0);
            clock.run(1);
            Check.due("left, out", clock.front(0, true), NONE);
            Check.due("right, out", clock.front(0, false), NONE);
            clock.renew(0);
            Check.due("left, renewed", clock.front(0, true), 0);
            Check.due("right, renewed", clock.front(0, false), 1);
        }
    }

    private static void noCordForFront() {
        CordClock clock = fourCords();
        for (boolean left : new boolean[] {true, false}) {
            Check.dueThrows("cord", cord -> clock.front(cord, left), INDEX, -1, 4, 5);
            Check.dueThrows("cord", cord -> clock.front(cord, left), INDEX, ODD);
            Check.dueThrow("no cord at all", () -> new CordClock().front(0, left), INDEX);
        }
    }

    // ---- promise 20

    private static CordClock eightRules() {
        CordClock clock = Ask.clockOf("new:1;new:9;new:9;new:9");
        for (int i = 0; i < 8; i++) {
            clock.rule(i % 4, 3 - i % 4, i % 2 == 1);
        }
        return clock;
    }

    private static void numbersOfARule() {
        CordClock clock = eightRules();
        for (int i = 0; i < 8; i++) {
            Check.due("out of rule " + i, clock.ruleOf(i, 0), i % 4);
            Check.due("lit by rule " + i, clock.ruleOf(i, 1), 3 - i % 4);
            Check.due("end of rule " + i, clock.ruleOf(i, 2), i % 2);
            Check.due("how often rule " + i + " lit", clock.ruleOf(i, 3), 0);
        }
    }

    private static void firstAndLastRule() {
        CordClock clock = eightRules();
        Check.due("the first one", clock.ruleOf(0, 1), 3);
        Check.due("the last one", clock.ruleOf(7, 0), 3);
        Check.dueThrows("rule", rule -> clock.ruleOf(rule, 0), INDEX, -1, 8);
        clock.undo();
        Check.dueThrow("the eighth one, undone", () -> clock.ruleOf(7, 0), INDEX);
        Check.due("the seventh one", clock.ruleOf(6, 0), 2);
    }

    private static void howOftenItLit() {
        CordClock clock = Ask.clockOf("new:1;new:9;when:0,1L;when:0,1R;when:0,1L");
        for (int i = 1; i <= 3; i++) {
            clock.renew(0);
            clock.renew(1);
            clock.light(0, true);
            if (i == 2) {
                clock.light(1, false);
            }
            clock.run(1);
            Check.due("it lit each time", clock.ruleOf(0, 3), i);
            Check.due("not where a flame was", clock.ruleOf(1, 3), i == 1 ? 1 : i - 1);
            Check.due("not behind the first rule", clock.ruleOf(2, 3), 0);
        }
        Check.due("a call is no rule", clock.count(6), 4 + 3 + 2);
    }

    private static void leastAndGreatestOfARule() {
        CordClock clock = fourCords();
        clock.rule(0, 3, false);
        clock.rule(3, 0, true);
        int[][] want = {{0, 3, 0, 0}, {3, 0, 1, 0}};
        for (int what = 0; what < 4; what++) {
            Check.due("from 0 to 3: " + what, clock.ruleOf(0, what), want[0][what]);
            Check.due("from 3 to 0: " + what, clock.ruleOf(1, what), want[1][what]);
        }
    }

    private static void noRule() {
        CordClock clock = eightRules();
        for (int what = 0; what < 4; what++) {
            int asked = what;
            Check.dueThrows("rule", rule -> clock.ruleOf(rule, asked), INDEX, -1, 8, 9);
            Check.dueThrows("rule", rule -> clock.ruleOf(rule, asked), INDEX, ODD);
            Check.dueThrow("no rule at all", () -> fourCords().ruleOf(0, asked), INDEX);
        }
        clock.dropRules();
        Check.dueThrow("dropped", () -> clock.ruleOf(0, 0), INDEX);
    }

    private static void what0To3() {
        CordClock clock = eightRules();
        Check.due("the first", clock.ruleOf(5, 0), 1);
        Check.due("the last", clock.ruleOf(5, 3), 0);
        Check.dueThrows("what", what -> clock.ruleOf(0, what), ARGUMENT, -1, 4, 5);
        Check.dueThrows("what", what -> clock.ruleOf(7, what), ARGUMENT, ODD);
    }

    // ---- promise 21

    private static void counts(CordClock clock, int... want) {
        for (int what = 0; what < want.length; what++) {
            Check.due("count(" + what + ")", clock.count(what), want[what]);
        }
    }

    private static void countsOfANewClock() {
        counts(new CordClock(), 0, 0, 0, 0, 0, 0, 0, 0, 0, 0, 0, 0);
    }

    private static void mostOfEachCount() {
        CordClock clock = eightRules();
        Ask.execute(clock, "lit:0L;lit:0R;lit:1L;lit:1R;lit:2L;lit:2R;lit:3L;lit:3R");
        Ask.type(clock, "123456789012345678901234567890123456789012345678901234567890");
        counts(clock, 0, 4, 8, 8, 0, 0, 8, 0, 0, 8, 6, 60);
        clock.run(200);
        counts(clock, 200, 4, 8, 0, 15, 4, 8, 5, 195, 8, 6, 60);
        clock.clearBuffer();
        Check.due("cleared", clock.count(11), 0);
    }

    private static void signalsAndLightingsSoFar() {
        CordClock clock = Ask.clockOf("new:1;new:1;when:0,1L");
        for (int i = 1; i <= 3; i++) {
            clock.renew(0);
            clock.renew(1);
            clock.light(0, true);
            clock.run(1);
            counts(clock, 2 * i - 1, 2, 1, 1, 1, 2 * i - 1, 2 * i, 2 * i - 1);
            clock.run(1);
            counts(clock, 2 * i, 2, 1, 0, 3, 2 * i, 2 * i, 2 * i, 0);
        }
    }

    private static void theGapThatLastsNow() {
        CordClock clock = Ask.clockOf("new:1");
        clock.run(1);
        Check.due("its first step", clock.count(8), 1);
        clock.run(1);
        Check.due("its second step", clock.count(8), 2);
        clock.light(0, true);
        clock.run(2);
        Check.due("a shorter one lasts now", clock.count(8), 2);
        clock.run(1);
        Check.due("one as long lasts now", clock.count(8), 2);
        clock.run(1);
        Check.due("a longer one lasts now", clock.count(8), 3);
        clock.undo();
        clock.undo();
        clock.run(2);
        Check.due("undone in the middle of it", clock.count(8), 3);
        clock.keep(0);
        clock.run(5);
        clock.goBack(0);
        clock.run(1);
        Check.due("gone back to the middle of it", clock.count(8), 4);
    }

    private static void countsAfterUndo() {
        CordClock clock = Ask.clockOf("new:2;new:9;when:0,1L;lit:0L", "run:2");
        counts(clock, 2, 2, 1, 1, 1, 1, 2, 2, 0, 3, 2, 0);
        clock.undo();
        counts(clock, 0, 2, 1, 1, 0, 0, 1, 0, 0, 1, 1, 0);
        clock.undo();
        counts(clock, 0, 0, 0, 0, 0, 0, 0, 0, 0, 0, 0, 0);
    }

    private static void what0To11() {
        CordClock clock = Ask.clockOf("run:7");
        clock.append('r');
        Check.due("the first", clock.count(0), 7);
        Check.due("the last", clock.count(11), 1);
        Check.dueThrows("what", clock::count, ARGUMENT, -1, 12, 13);
        Check.dueThrows("what", clock::count, ARGUMENT, ODD);
    }

    // ---- promise 22

    private static void eachCharacter() {
        CordClock clock = Ask.clockOf("new:60;new:60;new:60;new:12", "lit:3L;run:12;lit:2R");
        String[] want = {"lit R 2@12", "out 3@12", "lit L 3@0"};
        for (int ago = 0; ago < 3; ago++) {
            for (int i = 0; i < want[ago].length(); i++) {
                Check.due("character " + i + " of " + want[ago], clock.entry(ago, i), want[ago].charAt(i));
            }
        }
    }

    private static void ago0To7() {
        CordClock clock = Ask.clockOf("new:9");
        for (int i = 0; i < 9; i++) {
            clock.light(0, true);
            clock.putOut(0, true);
            clock.run(1);
        }
        for (int ago = 0; ago < 8; ago++) {
            Check.due("the step of entry " + ago, clock.entry(ago, 8), '8' - ago);
        }
        Check.due("the ninth entry", clock.entry(8, 0), NONE);
    }

    private static void firstAndLastIndex() {
        CordClock clock = Ask.clockOf("new:9;lit:0R;run:9");
        Check.due("the first of out", clock.entry(0, 0), 'o');
        Check.due("the last of out", clock.entry(0, 6), '9');
        Check.due("the first of lit", clock.entry(1, 0), 'l');
        Check.due("the last of lit", clock.entry(1, 8), '0');
    }

    private static void behindTheText() {
        CordClock clock = Ask.clockOf("new:9;lit:0R;run:9");
        for (int index : new int[] {7, 8, 9, 100, Ask.HIGH}) {
            Check.due("out, " + index, clock.entry(0, index), NONE);
        }
        for (int index : new int[] {9, 10, 100, Ask.HIGH}) {
            Check.due("lit, " + index, clock.entry(1, index), NONE);
        }
    }

    private static void behindTheBook() {
        CordClock clock = Ask.clockOf("new:9;new:9;lit:0R");
        Check.due("the only one", clock.entry(0, 0), 'l');
        for (int ago : new int[] {1, 2, 7, 8, 9, 100, 256, 65536, Ask.HIGH}) {
            Check.due("behind it, " + ago, clock.entry(ago, 0), NONE);
            Check.due("behind both, " + ago, clock.entry(ago, Ask.HIGH), NONE);
        }
        clock.light(1, true);
        clock.undo();
        Check.due("what was undone is no entry", clock.entry(1, 0), NONE);
    }

    private static void negativeAgoOrIndex() {
        for (CordClock clock : new CordClock[] {new CordClock(), Ask.clockOf("new:9;lit:0R")}) {
            Check.dueThrows("ago", ago -> clock.entry(ago, 0), ARGUMENT, -1, -8, Ask.LOW);
            Check.dueThrows("index", index -> clock.entry(0, index), ARGUMENT, -1, -8, Ask.LOW);
            Check.dueThrows("ago, far behind the text", ago -> clock.entry(ago, Ask.HIGH), ARGUMENT, -1, Ask.LOW);
            Check.dueThrows("index, far behind the book", index -> clock.entry(Ask.HIGH, index), ARGUMENT, -1, Ask.LOW);
            Check.dueThrow("both", () -> clock.entry(-1, -1), ARGUMENT);
        }
    }

    // ---- promises 23 and 24

    private static void byFlamesAlone() {
        CordClock clock = fourCords();
        Ask.execute(clock, "lit:0L;lit:1R;lit:3L;lit:3R;run:1");
        int[] want = {11, 5, NONE, 4};
        for (int cord = 0; cord < 4; cord++) {
            Check.due("cord " + cord, clock.outIn(cord), want[cord]);
        }
    }

    private static void byRules() {
        CordClock clock = Ask.clockOf("new:3;new:9;new:4;when:0,1L;when:2,1R;lit:0L;lit:2L");
        Check.due("one end at 3, the other at 4", clock.outIn(1), 8);
        Check.due("nothing changes", clock.ruleOf(0, 3) + clock.count(0), 0);
        clock.dropRules();
        Check.due("without rules", clock.outIn(1), NONE);
        CordClock both = Ask.clockOf("new:3;new:3;when:0,1R;lit:0L;lit:1L");
        Check.due("a rule comes too late", both.outIn(1), 3);
    }

    private static void asRunDoes() {
        for (int steps = 1; steps <= 30; steps++) {
            CordClock clock = Ask.clockOf("new:3;new:9;new:4;when:0,1L;when:2,1R;lit:0L;lit:2L");
            int[] told = {clock.outIn(0), clock.outIn(1), clock.outIn(2)};
            clock.run(steps);
            for (int cord = 0; cord < 3; cord++) {
                Check.due("out of " + cord + " after " + steps, clock.cordOf(cord, 6), told[cord] <= steps ? 1 : 0);
                Check.due("then", clock.outIn(cord), Math.max(0, told[cord] - steps));
            }
        }
    }

    private static void firstAndLastCordOfOutIn() {
        CordClock clock = fourCords();
        Ask.execute(clock, "lit:0L;lit:3L");
        Check.due("the first one", clock.outIn(0), 12);
        Check.due("the last one", clock.outIn(3), 9);
        Check.dueThrows("cord", clock::outIn, INDEX, -1, 4);
    }

    private static void oneStepToTheMost() {
        CordClock one = Ask.clockOf("new:1;lit:0L");
        Check.due("one step", one.outIn(0), 1);
        CordClock two = Ask.clockOf("new:2;lit:0L;lit:0R");
        Check.due("one step of two flames", two.outIn(0), 1);
        CordClock clock = longest();
        Ask.execute(clock, "when:0,1L;when:1,2R;when:2,3L;lit:0L");
        for (int cord = 0; cord < 4; cord++) {
            Check.due("the most steps of cord " + cord, clock.outIn(cord), 360 * (cord + 1));
        }
    }

    private static void outNow() {
        CordClock clock = Ask.clockOf("new:1;new:9;when:1,0L;lit:0L;lit:1L;run:1");
        Check.due("out now", clock.outIn(0), 0);
        clock.run(200);
        Check.due("for good", clock.outIn(0), 0);
        clock.renew(0);
        Check.due("renewed", clock.outIn(0), NONE);
        clock.light(0, false);
        Check.due("lit again", clock.outIn(0), 1);
    }

    private static void willNotBeOut() {
        CordClock clock = Ask.clockOf("new:60;new:60;when:1,0L");
        Check.due("no flame at all", clock.outIn(0), NONE);
        clock.light(1, true);
        Check.due("by the rule", clock.outIn(0), 120);
        clock.putOut(1, true);
        Check.due("the flame is put out", clock.outIn(0), NONE);
        clock.light(0, true);
        Check.due("no rule of this cord", clock.outIn(1), NONE);
        clock.run(59);
        clock.putOut(0, true);
        Check.due("one step before it would be", clock.outIn(0), NONE);
    }

    private static void noCordForOutIn() {
        CordClock clock = fourCords();
        Check.dueThrows("cord", clock::outIn, INDEX, -1, 4, 5);
        Check.dueThrows("cord", clock::outIn, INDEX, ODD);
        Check.dueThrow("no cord at all", () -> new CordClock().outIn(0), INDEX);
    }

    private static void whateverFlamesItHas() {
        for (String ends : new String[] {"lit:1L", "lit:0L", "lit:0R", "lit:0L;lit:0R"}) {
            CordClock clock = Ask.clockOf("new:9.9;new:1;" + ends);
            for (int way = 0; way < 2; way++) {
                Check.due("with one", clock.lasts(0, 1, way), 18);
                Check.due("with two", clock.lasts(0, 2, way), 9);
            }
        }
    }

    private static void firstAndLastCordOfLasts() {
        CordClock clock = fourCords();
        for (int way = 0; way < 2; way++) {
            int told = way;
            Check.due("the first one", clock.lasts(0, 1, way), 12);
            Check.due("the last one", clock.lasts(3, 1, way), 9);
            Check.dueThrows("cord", cord -> clock.lasts(cord, 1, told), INDEX, -1, 4);
        }
    }

    private static void oneOrTwoFlames() {
        CordClock clock = Ask.clockOf("new:60.60.60.60.60.60;new:1;new:2;new:3");
        int[][] want = {{360, 180}, {1, 1}, {2, 1}, {3, 2}};
        for (int cord = 0; cord < 4; cord++) {
            for (int way = 0; way < 2; way++) {
                Check.due("one flame", clock.lasts(cord, 1, way), want[cord][0]);
                Check.due("two flames", clock.lasts(cord, 2, way), want[cord][1]);
            }
        }
        Check.dueThrows("flames", flames -> clock.lasts(0, flames, 0), ARGUMENT, 0, 3);
        Check.dueThrows("flames", flames -> clock.lasts(0, flames, 1), ARGUMENT, 0, 3);
    }

    private static void bothWaysAreTheSame() {
        CordClock clock = Ask.clockOf("new:60.60;lit:0L;lit:0R");
        for (int left = 120; left >= 0; left -= 2) {
            for (int way = 0; way < 2; way++) {
                Check.due("one flame", clock.lasts(0, 1, way), left);
                Check.due("two flames", clock.lasts(0, 2, way), left / 2);
            }
            clock.run(1);
        }
        CordClock odd = Ask.clockOf("new:59.60;lit:0L;lit:0R");
        for (int left = 119; left > 0; left -= 2) {
            for (int way = 0; way < 2; way++) {
                Check.due("two flames, rounded up", odd.lasts(0, 2, way), (left + 1) / 2);
            }
            odd.run(1);
        }
        Check.dueThrows("way", way -> clock.lasts(0, 1, way), ARGUMENT, -1, 2);
    }

    private static void lastsNothingWhenOut() {
        CordClock clock = Ask.clockOf("new:2;lit:0R;run:1");
        for (int i = 0; i < 4; i++) {
            Check.due("one step before", clock.lasts(0, 1 + i / 2, i % 2), 1);
        }
        clock.run(1);
        for (int i = 0; i < 4; i++) {
            Check.due("out", clock.lasts(0, 1 + i / 2, i % 2), 0);
        }
        clock.renew(0);
        Check.due("renewed", clock.lasts(0, 1, 0), 2);
    }

    private static void noCordForLasts() {
        CordClock clock = fourCords();
        for (int i = 0; i < 4; i++) {
            int flames = 1 + i / 2;
            int way = i % 2;
            Check.dueThrows("cord", cord -> clock.lasts(cord, flames, way), INDEX, -1, 4, 5);
            Check.dueThrows("cord", cord -> clock.lasts(cord, flames, way), INDEX, ODD);
            Check.dueThrow("no cord at all", () -> new CordClock().lasts(0, flames, way), INDEX);
        }
    }

    private static void flamesOrWayOutOfRange() {
        CordClock clock = Ask.clockOf("new:9;new:1;lit:1L;run:1");
        for (int cord = 0; cord < 2; cord++) {
            int asked = cord;
            Check.dueThrows("flames", flames -> clock.lasts(asked, flames, 0), ARGUMENT, 0, 3, -1, -2);
            Check.dueThrows("flames", flames -> clock.lasts(asked, flames, 1), ARGUMENT, ODD);
            Check.dueThrows("way", way -> clock.lasts(asked, 1, way), ARGUMENT, -1, 2, 3);
            Check.dueThrows("way", way -> clock.lasts(asked, 2, way), ARGUMENT, ODD);
            Check.dueThrow("both", () -> clock.lasts(asked, 0, 2), ARGUMENT);
        }
    }

    // ---- promises 25 and 26

    private static void told(CordClock clock, int cords, int... want) {
        Check.due("how many", clock.tellable(cords, NONE), want.length);
        for (int rank = 0; rank < want.length; rank++) {
            Check.due("rank " + rank, clock.tellable(cords, rank), want[rank]);
        }
        Check.due("behind the last rank", clock.tellable(cords, want.length), NONE);
    }

    private static void timesInAscendingOrder() {
        CordClock clock = Ask.clockOf("new:2;new:1;new:60");
        told(clock, 3, 1, 2, 3);
        told(clock, 1, 1, 2);
        told(clock, 4, 30, 60);
        CordClock three = Ask.clockOf("new:60;new:60;new:60");
        int before = 0;
        for (int rank = 0; rank < three.tellable(7, NONE); rank++) {
            int time = three.tellable(7, rank);
            Check.due("greater than the one before", time > before ? 1 : 0, 1);
            Check.due("it can be told", three.fewestFlames(7, time) > 0 ? 1 : 0, 1);
            before = time;
        }
        Check.due("the greatest", before, 180);
    }

    private static void noneToThreeCords() {
        CordClock clock = Ask.clockOf("new:1;new:2;new:3;new:4");
        told(clock, 0);
        told(clock, 8, 2, 4);
        told(clock, 3, 1, 2, 3);
        for (int three : new int[] {7, 11, 13, 14}) {
            int times = clock.tellable(three, NONE);
            Check.due("one after the other, " + three, clock.tellable(three, times - 1), longestOf(three));
        }
        Check.dueThrow("four", () -> clock.tellable(15, NONE), ARGUMENT);
    }

    /** The times of the cords of a set together, where cord i burns for i + 1 steps. */
    private static int longestOf(int cords) {
        int time = 0;
        for (int i = 0; i < 4; i++) {
            time += (cords >> i & 1) * (i + 1);
        }
        return time;
    }

    private static void ranks() {
        CordClock clock = Ask.clockOf("new:60;new:60");
        Check.due("NONE", clock.tellable(3, NONE), 5);
        int[] want = {30, 45, 60, 90, 120, NONE};
        for (int rank = 0; rank < want.length; rank++) {
            Check.due("rank " + rank, clock.tellable(3, rank), want[rank]);
        }
        Check.due("NONE for no cords", clock.tellable(0, NONE), 0);
        Check.due("rank 0 for no cords", clock.tellable(0, 0), NONE);
    }

    private static void behindTheLastRank() {
        CordClock clock = Ask.clockOf("new:1;new:60");
        Check.due("the last rank", clock.tellable(1, 0), 1);
        for (int rank : new int[] {1, 2, 1080, 1081, 65536, Ask.HIGH}) {
            Check.due("rank " + rank, clock.tellable(1, rank), NONE);
            Check.due("rank " + rank + " of another cord", clock.tellable(2, rank), rank == 1 ? 60 : NONE);
        }
        Check.due("without cords in the set", clock.tellable(0, Ask.HIGH), NONE);
    }

    private static void noSuchSetOfTellable() {
        int[] odd = {-1, -2, -8, 16, 17, 31, 256, 65536, 1 << 30, Ask.LOW, Ask.HIGH};
        CordClock clock = fourCords();
        Check.dueThrows("cords", cords -> clock.tellable(cords, 0), ARGUMENT, odd);
        Check.dueThrows("cords", cords -> clock.tellable(cords, NONE), ARGUMENT, odd);
        Check.dueThrow("four cords", () -> clock.tellable(15, 0), ARGUMENT);
        for (int count = 0; count < 4; count++) {
            CordClock fewer = new CordClock();
            for (int i = 0; i < count; i++) {
                fewer.cord(1, 1);
            }
            int first = 1 << count;
            Check.dueThrow("the first cord that there is not", () -> fewer.tellable(first, 0), ARGUMENT);
            Check.dueThrow("it and others", () -> fewer.tellable(first | first - 1, NONE), ARGUMENT);
            Check.dueThrow("the last cord that there is not", () -> fewer.tellable(8, 0), ARGUMENT);
            Check.due("all cords that there are", fewer.tellable(first - 1, NONE), count);
        }
    }

    private static void rankBelowNone() {
        CordClock clock = fourCords();
        Check.dueThrows("rank", rank -> clock.tellable(1, rank), ARGUMENT, -2, -3, Ask.LOW);
        Check.dueThrows("rank, no cords", rank -> clock.tellable(0, rank), ARGUMENT, -2, Ask.LOW);
        Check.due("NONE", clock.tellable(1, NONE), 2);
        Check.due("0", clock.tellable(1, 0), 6);
    }

    private static void fewestOfSeveralPlans() {
        CordClock clock = Ask.clockOf("new:4;new:8;new:12");
        Check.due("one cord at one end, not one at both", clock.fewestFlames(3, 4), 1);
        Check.due("only one at both", clock.fewestFlames(2, 4), 2);
        Check.due("one cord, not two", clock.fewestFlames(7, 12), 1);
        Check.due("two cords", clock.fewestFlames(3, 12), 2);
        Check.due("not three cords", clock.fewestFlames(7, 20), 2);
        Check.due("three cords", clock.fewestFlames(7, 24), 3);
    }

    private static void lightingsInTheToldStep() {
        CordClock clock = Ask.clockOf("new:60;new:60;new:60");
        Check.due("at the signal of 30 nothing more counts", clock.fewestFlames(7, 30), 2);
        Check.due("at the signal of 60 nothing more counts", clock.fewestFlames(7, 60), 1);
        Check.due("one lighting behind it", clock.fewestFlames(7, 120), 2);
        Check.due("one before, two at once, the one at 30", clock.fewestFlames(7, 45), 4);
    }

    private static void setsOfFewestFlames() {
        CordClock clock = Ask.clockOf("new:1;new:2;new:3;new:4");
        Check.due("no cords", clock.fewestFlames(0, 1), NONE);
        Check.due("the first one", clock.fewestFlames(1, 1), 1);
        Check.due("the last one", clock.fewestFlames(8, 4), 1);
        Check.due("three cords", clock.fewestFlames(7, 6), 3);
        Check.due("three other cords", clock.fewestFlames(14, 9), 3);
        Check.dueThrow("four cords", () -> clock.fewestFlames(15, 1), ARGUMENT);
    }

    private static void times1To1080() {
        CordClock clock = longest();
        clock.uneven(0, 0, 1);
        Check.due("1080 with the longest cords", clock.fewestFlames(14, 1080), 3);
        Check.due("1080 with a shorter one", clock.fewestFlames(7, 1080), NONE);
        CordClock one = Ask.clockOf("new:1");
        Check.due("1", one.fewestFlames(1, 1), 1);
        Check.due("1080", one.fewestFlames(1, 1080), NONE);
        Check.dueThrows("time", time -> clock.fewestFlames(14, time), ARGUMENT, 0, 1081);
    }

    private static void oneToSixLightingsOrNone() {
        CordClock clock = Ask.clockOf("new:60;new:60;new:60;new:1");
        Check.due("one", clock.fewestFlames(1, 60), 1);
        Check.due("two", clock.fewestFlames(1, 30), 2);
        Check.due("three", clock.fewestFlames(3, 90), 3);
        Check.due("four", clock.fewestFlames(3, 45), 4);
        Check.due("all six", clock.fewestFlames(7, 53), 6);
        Check.due("none in between", clock.fewestFlames(7, 52), NONE);
        Check.due("none before the first", clock.fewestFlames(7, 29), NONE);
        Check.due("none behind the last", clock.fewestFlames(7, 181), NONE);
    }

    private static void noSuchSetOrTime() {
        CordClock clock = fourCords();
        Check.dueThrows("cords", cords -> clock.fewestFlames(cords, 1), ARGUMENT, -1, -2, -8, 15, 16, 17, 31, 256, 65536,
            1 << 30, Ask.LOW, Ask.HIGH);
        Check.dueThrows("time", time -> clock.fewestFlames(1, time), ARGUMENT, 0, 1081, -1, 1082, 65536 + 1, Ask.LOW, Ask.HIGH);
        Check.dueThrow("both", () -> clock.fewestFlames(15, 0), ARGUMENT);
        Check.dueThrow("no cords, no time", () -> new CordClock().fewestFlames(0, 0), ARGUMENT);
        Check.due("no cords", new CordClock().fewestFlames(0, 1080), NONE);
        Check.dueThrow("the first cord that there is not", () -> new CordClock().fewestFlames(1, 1), ARGUMENT);
        CordClock three = Ask.clockOf("new:1;new:1;new:1");
        Check.due("all three cords", three.fewestFlames(7, 3), 3);
        Check.dueThrow("the fourth cord", () -> three.fewestFlames(8, 3), ARGUMENT);
    }

    // ---- promise 27

    private static void dueFloat(String what, float got, float want) {
        Check.due(what, Float.floatToRawIntBits(got), Float.floatToRawIntBits(want));
    }

    private static void noneToAllIsBurned() {
        CordClock clock = longest();
        dueFloat("none", clock.burned(), 0.0f);
        Ask.execute(clock, "lit:0L;lit:1R;lit:2L;lit:2R;lit:3L;run:1");
        dueFloat("both sides of all cords", clock.burned(), 5.0f / 1440.0f);
        Ask.execute(clock, "run:200;run:158");
        dueFloat("nearly all", clock.burned(), 1437.0f / 1440.0f);
        clock.run(1);
        dueFloat("all", clock.burned(), 1.0f);
        clock.renew(1);
        dueFloat("one is new again", clock.burned(), 1080.0f / 1440.0f);
    }

    private static void asFloats() {
        CordClock clock = Ask.clockOf("new:3;new:7;lit:0L;run:1");
        dueFloat("a tenth", clock.burned(), 1.0f / 10.0f);
        clock.run(2);
        dueFloat("three tenths", clock.burned(), 3.0f / 10.0f);
        clock.cord(1, 1);
        dueFloat("a cord more", clock.burned(), 3.0f / 11.0f);
        clock.uneven(2, 0, 60);
        dueFloat("a longer one", clock.burned(), 3.0f / 70.0f);
        CordClock least = Ask.clockOf("new:1;lit:0R");
        dueFloat("nothing of the least time", least.burned(), 0.0f);
        least.run(1);
        dueFloat("all of the least time", least.burned(), 1.0f);
    }

    private static void burnedWithoutCords() {
        CordClock clock = new CordClock();
        dueFloat("of a new clock", clock.burned(), 0.0f);
        clock.run(200);
        dueFloat("after steps", clock.burned(), 0.0f);
        Ask.execute(clock, "new:1;lit:0L;run:1");
        clock.undo();
        dueFloat("its only cord was undone", clock.burned(), 0.0f);
    }
}
