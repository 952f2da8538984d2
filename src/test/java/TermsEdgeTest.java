import java.io.IOException;

/** The boundary cases of each sentence under "Terms", but for order texts, undo and exceptions. */
public final class TermsEdgeTest {
    private static final Class<?> INDEX = IndexOutOfBoundsException.class;
    private static final Class<?> ARGUMENT = IllegalArgumentException.class;
    private static final Class<?> STATE = IllegalStateException.class;
    private static final int CALLS = 512;

    public static void main(String[] args) throws IOException {
        Sentences document = new Sentences(args, "What it is", "Terms", "Cords", "Steps", "Rules", "Book", "Telling times");
        whatItIs(document);
        cords(document);
        steps(document);
        rulesAndBook(document);
        tellingTimes(document);
        document.end("TermsEdgeTest");
    }

    private static void whatItIs(Sentences document) {
        document.free("What it is", "A clock of burning cords");
        document.test("What it is", "An object is used for at most 512 calls", TermsEdgeTest::lastStepOf512Calls);
        document.test("What it is", "An object is used for at most 512 calls", TermsEdgeTest::lastEntryOf512Calls);
        document.test("What it is", "An object is used for at most 512 calls", TermsEdgeTest::lastUndoOf512Calls);
        document.test("What it is", "An object is used for at most 512 calls", TermsEdgeTest::mostLightingsOf512Calls);
        document.test("What it is", "An object is used for at most 512 calls", TermsEdgeTest::mostSmokeOf512Calls);
        document.free("Terms", "All numbers are integers");
        document.test("Terms", "Sets of cords are bit masks", TermsEdgeTest::eachCordHasItsBit);
        document.test("Terms", "Sets of cords are bit masks", TermsEdgeTest::eachBitIsItsCord);
    }

    private static void cords(Sentences document) {
        document.test("Cords", "There are at most 4 cords", TermsEdgeTest::fourCords);
        document.test("Cords", "There are at most 4 cords", TermsEdgeTest::fourCordsByOrders);
        document.test("Cords", "There are at most 4 cords", TermsEdgeTest::numbersOfCordsAfterUndo);
        document.test("Cords", "A cord has 1 to 6 segments", TermsEdgeTest::oneToSixSegments);
        document.test("Cords", "A cord has 1 to 6 segments", TermsEdgeTest::segmentsFromTheLeft);
        document.test("Cords", "A cord has 1 to 6 segments", TermsEdgeTest::oneToSixtySteps);
        document.test("Cords", "The time of a cord is the sum", TermsEdgeTest::leastAndGreatestTime);
        document.test("Cords", "The time of a cord is the sum", TermsEdgeTest::sumOfUnevenSegments);
        document.test("Cords", "Its left flame, if there is one", TermsEdgeTest::flamesFromTheirEnds);
        document.test("Cords", "Its left flame, if there is one", TermsEdgeTest::flamesMeet);
        document.test("Cords", "The burned part of a side", TermsEdgeTest::burnedPartOfEachSide);
        document.test("Cords", "A cord is burned out if", TermsEdgeTest::outAtItsTime);
        document.test("Cords", "A cord is burned out if", TermsEdgeTest::outByOneSideAfterTheOther);
        document.test("Cords", "A cord that is burned out has no flames", TermsEdgeTest::noFlamesWhenOut);
    }

    private static void steps(Sentences document) {
        document.test("Steps", "In a step, each flame burns for 1", TermsEdgeTest::eachFlameBurnsForOne);
        document.test("Steps", "In a step, each flame burns for 1", TermsEdgeTest::leftOneBurnsFirst);
        document.test("Steps", "In a step, each flame burns for 1", TermsEdgeTest::lastStepOfTwoFlames);
        document.test("Steps", "Cords that are burned out by the step", TermsEdgeTest::signalsInAscendingOrder);
        document.test("Steps", "Cords that are burned out by the step", TermsEdgeTest::oneSignalOnly);
        document.test("Steps", "Cords that are burned out by the step", TermsEdgeTest::entryAheadOfWhatRulesLight);
        document.test("Steps", "Cords that are burned out by the step", TermsEdgeTest::rulesInTheirOrder);
        document.test("Steps", "Cords that are burned out by the step", TermsEdgeTest::ruleOfAnotherCord);
        document.test("Steps", "Cords that are burned out by the step", TermsEdgeTest::ruleOfACordThatIsOut);
        document.test("Steps", "Cords that are burned out by the step", TermsEdgeTest::ruleOfACordThatThisStepBurnsOut);
        document.test("Steps", "Cords that are burned out by the step", TermsEdgeTest::ruleWhereAFlameIs);
        document.test("Steps", "Cords that are burned out by the step", TermsEdgeTest::ruleWhereTheSignalBeforeLit);
        document.test("Steps", "Cords that are burned out by the step", TermsEdgeTest::ruleActsAgainAfterRenew);
        document.test("Steps", "Cords that are burned out by the step", TermsEdgeTest::chainOfRules);
        document.test("Steps", "The number of the step", TermsEdgeTest::numberOfTheStep);
        document.test("Steps", "A step has smoke", TermsEdgeTest::smoke);
        document.test("Steps", "A step has smoke", TermsEdgeTest::noSmokeWithoutAStep);
        document.test("Steps", "A gap is a row of steps", TermsEdgeTest::gapOverSeveralCalls);
        document.test("Steps", "A gap is a row of steps", TermsEdgeTest::oneStepWithSmokeEndsAGap);
        document.test("Steps", "A gap is a row of steps", TermsEdgeTest::flameWithoutAStepEndsNoGap);
    }

    private static void rulesAndBook(Sentences document) {
        document.test("Rules", "There are at most 8 rules", TermsEdgeTest::eightRules);
        document.test("Rules", "There are at most 8 rules", TermsEdgeTest::eightRulesByOrders);
        document.test("Rules", "There are at most 8 rules", TermsEdgeTest::numbersOfRulesBeginAnew);
        document.test("Rules", "There are at most 8 rules", TermsEdgeTest::theEighthRuleActs);
        document.test("Book", "The book knows the latest 8 entries", TermsEdgeTest::emptyBook);
        document.test("Book", "The book knows the latest 8 entries", TermsEdgeTest::latestEightEntries);
        document.test("Book", "The book knows the latest 8 entries", TermsEdgeTest::moreEntriesThanEightInAStep);
        document.test("Book", "The book knows the latest 8 entries", TermsEdgeTest::whatIsNoEntry);
        document.test("Book", "An entry as a text", TermsEdgeTest::textsOfEachKind);
        document.test("Book", "An entry as a text", TermsEdgeTest::stepsOfOneToSixDigits);
    }

    private static void tellingTimes(Sentences document) {
        document.test("Telling times", "Some cords, at most 3", TermsEdgeTest::threeCords);
        document.test("Telling times", "Some cords, at most 3", TermsEdgeTest::asIfNew);
        document.test("Telling times", "Some cords, at most 3", TermsEdgeTest::withoutRules);
        document.test("Telling times", "A plan lights ends", TermsEdgeTest::onlyAtSignals);
        document.test("Telling times", "A plan lights ends", TermsEdgeTest::manyAtOneSignal);
        document.test("Telling times", "A plan lights ends", TermsEdgeTest::whicheverCordIsFirst);
        document.test("Telling times", "A plan lights ends", TermsEdgeTest::noneAtASignal);
        document.test("Telling times", "A plan lights ends", TermsEdgeTest::threeSignals);
        document.test("Telling times", "A time can be told", TermsEdgeTest::leastAndGreatestToldTime);
        document.test("Telling times", "A time can be told", TermsEdgeTest::countedFromTheBeginning);
        document.test("Telling times", "A lighting is a flame", TermsEdgeTest::eachFlameIsALighting);
    }

    // ---- what it is

    private static void lastStepOf512Calls() {
        CordClock clock = new CordClock();
        for (int i = 1; i < CALLS; i++) {
            Check.due("signals of call " + i, clock.run(200), 0);
        }
        Check.due("the step, by call 512", clock.count(0), 102200);
        CordClock gap = new CordClock();
        for (int i = 1; i < CALLS; i++) {
            gap.run(200);
        }
        Check.due("the gap, by call 512", gap.count(8), 102200);
    }

    private static void lastEntryOf512Calls() {
        CordClock clock = new CordClock();
        clock.cord(1, 1);
        for (int i = 2; i < CALLS - 1; i++) {
            clock.run(200);
        }
        clock.light(0, false);
        Check.due("the last character, by call 512", clock.entry(0, 13), '0');
        Check.dueText("the entry", Ask.entry(clock, 0), "lit R 0@101800");
    }

    private static void lastUndoOf512Calls() {
        CordClock clock = new CordClock();
        for (int i = 1; i < CALLS; i++) {
            clock.run(1);
        }
        Check.due("states left, by call 512", clock.undo(), 5);
        Check.due("the step", clock.count(0), 510);
    }

    private static void mostLightingsOf512Calls() {
        CordClock clock = new CordClock();
        clock.cord(1, 60);
        for (int i = 2; i < CALLS; i++) {
            Check.due("flames after call " + i, i % 2 == 0 ? clock.light(0, true) : clock.putOut(0, true), 1 - i % 2);
        }
        Check.due("lightings, by call 512", clock.count(6), 255);
    }

    private static void mostSmokeOf512Calls() {
        CordClock clock = new CordClock();
        clock.cord(6, 60);
        for (int i = 1; i <= 127; i++) {
            clock.renew(0);
            clock.light(0, i % 2 == 0);
            Check.due("signals", clock.run(200) + clock.run(160), 1);
        }
        Check.due("steps with smoke", clock.count(7), 45720);
        Check.due("signals", clock.count(5), 127);
    }

    // ---- terms

    private static void eachCordHasItsBit() {
        for (int cord = 0; cord < 4; cord++) {
            CordClock clock = Ask.clockOf("new:1;new:1;new:1;new:1");
            Check.due("no cord is out", clock.count(4), 0);
            clock.light(cord, true);
            clock.run(1);
            Check.due("only cord " + cord + " is out", clock.count(4), new int[] {1, 2, 4, 8}[cord]);
        }
        CordClock all = Ask.clockOf("new:1;new:1;new:1;new:1;lit:0L;lit:1L;lit:2R;lit:3R;run:1");
        Check.due("all cords are out", all.count(4), 15);
    }

    private static void eachBitIsItsCord() {
        CordClock clock = Ask.clockOf("new:2;new:4;new:6;new:8");
        for (int cord = 0; cord < 4; cord++) {
            int set = new int[] {1, 2, 4, 8}[cord];
            Check.due("two times of cord " + cord, clock.tellable(set, CordClock.NONE), 2);
            Check.due("its time", clock.tellable(set, 1), 2 * cord + 2);
            Check.due("one lighting", clock.fewestFlames(set, 2 * cord + 2), 1);
        }
    }

    // ---- cords

    private static void fourCords() {
        CordClock clock = new CordClock();
        for (int i = 0; i < 4; i++) {
            Check.due("cords so far", clock.count(1), i);
            Check.due("number of the cord", clock.cord(1, 10 + i), i);
        }
        Check.dueThrow("the fifth cord", () -> clock.cord(1, 1), STATE);
        Check.due("cords", clock.count(1), 4);
        for (int i = 0; i < 4; i++) {
            Check.due("time of cord " + i, clock.cordOf(i, 0), 10 + i);
        }
        Check.dueThrow("no cord 4", () -> clock.cordOf(4, 0), INDEX);
    }

    private static void fourCordsByOrders() {
        CordClock clock = new CordClock();
        Check.due("four orders", Ask.execute(clock, "new:5;new:6;new:7;new:8"), 4);
        Check.due("the fourth cord", clock.cordOf(3, 0), 8);
        Check.due("a fifth order", Ask.execute(clock, "new:9"), 0);
        Check.due("cords", clock.count(1), 4);
        Check.dueThrow("a fifth cord", () -> clock.cord(1, 1), STATE);
    }

    private static void numbersOfCordsAfterUndo() {
        CordClock clock = Ask.clockOf("new:5;new:6;new:7");
        clock.cord(6, 60);
        clock.light(3, true);
        clock.run(9);
        clock.undo();
        clock.undo();
        clock.undo();
        Check.due("cords", clock.count(1), 3);
        Check.due("the number is given anew", clock.cord(2, 3), 3);
        int[] want = {6, 2, 0, 0, 6, 0, 0, CordClock.NONE};
        for (int what = 0; what < want.length; what++) {
            Check.due("number " + what + " of the new cord", clock.cordOf(3, what), want[what]);
        }
    }

    private static void oneToSixSegments() {
        for (int segments = 1; segments <= 6; segments++) {
            CordClock clock = new CordClock();
            Check.due("a cord of " + segments, clock.cord(segments, 2), 0);
            Check.due("segments", clock.cordOf(0, 1), segments);
            Check.due("the last segment", clock.segment(0, segments - 1), 2);
            int behind = segments;
            Check.dueThrow("behind the last segment", () -> clock.segment(0, behind), INDEX);
        }
        CordClock clock = new CordClock();
        Check.dueThrow("no segment", () -> clock.cord(0, 1), ARGUMENT);
        Check.dueThrow("seven segments", () -> clock.cord(7, 1), ARGUMENT);
    }

    private static void segmentsFromTheLeft() {
        CordClock clock = Ask.clockOf("new:1.2.3.4.5.6");
        for (int i = 0; i < 6; i++) {
            Check.due("segment " + i, clock.segment(0, i), i + 1);
        }
        Check.due("the leftmost one", clock.front(0, true), 0);
        Check.due("the rightmost one", clock.front(0, false), 5);
    }

    private static void oneToSixtySteps() {
        CordClock clock = Ask.clockOf("new:30.30.30");
        Check.due("before", clock.uneven(0, 1, 60), 30);
        Check.due("before", clock.uneven(0, 2, 1), 30);
        for (int i = 0; i < 3; i++) {
            Check.due("segment " + i, clock.segment(0, i), new int[] {30, 60, 1}[i]);
            int segment = i;
            Check.dueThrows("steps", time -> clock.uneven(0, segment, time), ARGUMENT, 0, 61);
        }
        Check.dueThrows("steps of each", time -> clock.cord(1, time), ARGUMENT, 0, 61);
        Check.due("the least", clock.cord(1, 1), 1);
        Check.due("the greatest", clock.cord(1, 60), 2);
    }

    private static void leastAndGreatestTime() {
        CordClock clock = new CordClock();
        clock.cord(1, 1);
        clock.cord(6, 60);
        Check.due("the least time", clock.cordOf(0, 0), 1);
        Check.due("the greatest time", clock.cordOf(1, 0), 360);
        clock.light(1, true);
        clock.run(200);
        Check.due("signals before it", clock.run(159), 0);
        Check.due("signal at it", clock.run(1), 1);
    }

    private static void sumOfUnevenSegments() {
        CordClock clock = Ask.clockOf("new:1.60.2.59.3.58");
        Check.due("sum", clock.cordOf(0, 0), 183);
        clock.uneven(0, 5, 1);
        Check.due("sum with another last segment", clock.cordOf(0, 0), 126);
        clock.uneven(0, 0, 60);
        Check.due("sum with another first segment", clock.cordOf(0, 0), 185);
        clock.uneven(0, 0, 60);
        Check.due("sum with the same segment", clock.cordOf(0, 0), 185);
    }

    private static void flamesFromTheirEnds() {
        CordClock left = Ask.clockOf("new:1.2.1;lit:0L");
        CordClock right = Ask.clockOf("new:1.2.1;lit:0R");
        int[] fronts = {0, 1, 1, 2};
        for (int i = 0; i < 4; i++) {
            Check.due("left front after " + i, left.front(0, true), fronts[i]);
            Check.due("the right front stays", left.front(0, false), 2);
            Check.due("right front after " + i, right.front(0, false), 2 - fronts[i]);
            Check.due("the left front stays", right.front(0, true), 0);
            left.run(1);
            right.run(1);
        }
        Check.due("out from the left", left.cordOf(0, 6), 1);
        Check.due("out from the right", right.cordOf(0, 6), 1);
    }

    private static void flamesMeet() {
        CordClock clock = Ask.clockOf("new:2.4.1;lit:0L;lit:0R;run:2");
        Check.due("left front", clock.front(0, true), 1);
        Check.due("right front", clock.front(0, false), 1);
        clock.run(1);
        Check.due("one step is left", clock.cordOf(0, 4), 1);
        Check.due("left front", clock.front(0, true), 1);
        Check.due("right front", clock.front(0, false), 1);
        clock.run(1);
        Check.due("no left front", clock.front(0, true), CordClock.NONE);
        Check.due("no right front", clock.front(0, false), CordClock.NONE);
    }

    private static void burnedPartOfEachSide() {
        CordClock clock = Ask.clockOf("new:9;lit:0L;run:2", "lit:0R;run:1");
        Check.due("left", clock.cordOf(0, 2), 3);
        Check.due("right", clock.cordOf(0, 3), 1);
        clock.putOut(0, true);
        clock.run(2);
        Check.due("left, without its flame", clock.cordOf(0, 2), 3);
        Check.due("right", clock.cordOf(0, 3), 3);
        clock.run(200);
        Check.due("left, burned out", clock.cordOf(0, 2), 3);
        Check.due("right, burned out", clock.cordOf(0, 3), 6);
    }

    private static void outAtItsTime() {
        for (int time : new int[] {1, 2, 59, 60}) {
            for (String end : new String[] {"L", "R"}) {
                CordClock clock = Ask.clockOf("new:" + time + ";lit:0" + end);
                if (time > 1) {
                    Check.due("signals before its time", clock.run(time - 1), 0);
                }
                Check.due("one step is left", clock.cordOf(0, 4), 1);
                Check.due("not out", clock.cordOf(0, 6) + clock.count(4), 0);
                Check.due("signal", clock.run(1), 1);
                Check.due("nothing is left", clock.cordOf(0, 4), 0);
                Check.due("out", clock.cordOf(0, 6) + clock.count(4), 2);
            }
        }
    }

    private static void outByOneSideAfterTheOther() {
        CordClock clock = Ask.clockOf("new:5;lit:0L;run:2");
        clock.putOut(0, true);
        clock.light(0, false);
        Check.due("signals before the sum is its time", clock.run(2), 0);
        Check.due("not out", clock.cordOf(0, 6), 0);
        Check.due("signal when the sum is its time", clock.run(1), 1);
        Check.due("left", clock.cordOf(0, 2), 2);
        Check.due("right", clock.cordOf(0, 3), 3);
        Check.due("out", clock.cordOf(0, 6), 1);
    }

    private static void noFlamesWhenOut() {
        for (String ends : new String[] {"lit:0L", "lit:0R", "lit:0L;lit:0R"}) {
            CordClock clock = Ask.clockOf("new:2;new:9;lit:1L;" + ends);
            clock.run(2);
            Check.due("its flames", clock.cordOf(0, 5), 0);
            Check.due("flames of all cords", clock.count(3), 1);
            for (boolean left : new boolean[] {true, false}) {
                Check.dueThrow("to be lit", () -> clock.light(0, left), STATE);
                Check.dueThrow("to be put out", () -> clock.putOut(0, left), STATE);
            }
        }
    }

    // ---- steps

    private static void eachFlameBurnsForOne() {
        CordClock clock = Ask.clockOf("new:9;new:9;new:9;new:9", "lit:0L;lit:1R;lit:2L;lit:2R;run:1");
        int[][] want = {{1, 0, 8}, {0, 1, 8}, {1, 1, 7}, {0, 0, 9}};
        for (int cord = 0; cord < 4; cord++) {
            for (int i = 0; i < 3; i++) {
                Check.due("cord " + cord, clock.cordOf(cord, i + 2), want[cord][i]);
            }
        }
        Check.due("one step", clock.count(0), 1);
    }

    private static void leftOneBurnsFirst() {
        for (int time = 1; time <= 60; time++) {
            CordClock clock = Ask.clockOf("new:" + time + ";lit:0R;lit:0L");
            int steps = clock.outIn(0);
            Check.due("steps of " + time, steps, (time + 1) / 2);
            Check.due("signal", clock.run((time + 1) / 2), 1);
            Check.due("left part of " + time, clock.cordOf(0, 2), (time + 1) / 2);
            Check.due("right part of " + time, clock.cordOf(0, 3), time / 2);
        }
    }

    private static void lastStepOfTwoFlames() {
        CordClock one = Ask.clockOf("new:5;lit:0R;run:4", "lit:0L;run:1");
        Check.due("the left one burns the last step", one.cordOf(0, 2), 1);
        Check.due("the right one does not", one.cordOf(0, 3), 4);
        CordClock two = Ask.clockOf("new:5;lit:0R;run:3", "lit:0L;run:1");
        Check.due("the left one burns", two.cordOf(0, 2), 1);
        Check.due("and the right one, too", two.cordOf(0, 3), 4);
        CordClock alone = Ask.clockOf("new:5;lit:0L;run:4", "lit:0R");
        alone.putOut(0, true);
        alone.run(1);
        Check.due("the right one alone burns the last step", alone.cordOf(0, 3), 1);
    }

    private static void signalsInAscendingOrder() {
        CordClock clock = Ask.clockOf("new:2;new:2;new:9;new:2", "lit:3L;lit:1R;lit:0L", "run:1");
        Check.due("signals", clock.run(1), 3);
        Check.dueText("0 to 3", Ask.book(clock), "out 3@2, out 1@2, out 0@2, lit L 0@0, lit R 1@0, lit L 3@0");
        CordClock all = Ask.clockOf("new:1;new:1;new:1;new:1", "lit:3L;lit:2L;lit:1L;lit:0L");
        Check.due("signals of all cords", all.run(1), 4);
        Check.due("signals so far", all.count(5), 4);
        Check.dueText("the first of four", Ask.entry(all, 3), "out 0@1");
        Check.dueText("the last of four", Ask.entry(all, 0), "out 3@1");
    }

    private static void oneSignalOnly() {
        CordClock clock = Ask.clockOf("new:1;lit:0L");
        Check.due("the signal", clock.run(1), 1);
        Check.due("no more of it", clock.run(200), 0);
        Check.due("signals so far", clock.count(5), 1);
        Check.due("entries", clock.count(9), 2);
    }

    private static void entryAheadOfWhatRulesLight() {
        CordClock clock = Ask.clockOf("new:1;new:1;new:9;new:9", "when:0,2L;when:1,3R;lit:0L;lit:1L;run:1");
        Check.dueText("each signal, then what its rules light", Ask.book(clock),
            "lit R 3@1, out 1@1, lit L 2@1, out 0@1, lit L 1@0, lit L 0@0");
    }

    private static void rulesInTheirOrder() {
        CordClock clock = Ask.clockOf("new:1;new:9;new:9", "when:0,2R;when:0,1L;when:0,2L;when:0,1L;lit:0R;run:1");
        Check.dueText("in the order in which the rules came", Ask.book(clock),
            "lit L 2@1, lit L 1@1, lit R 2@1, out 0@1, lit R 0@0");
        int[] lit = {1, 1, 1, 0};
        for (int rule = 0; rule < 4; rule++) {
            Check.due("how often rule " + rule + " lit", clock.ruleOf(rule, 3), lit[rule]);
        }
    }

    private static void ruleOfAnotherCord() {
        CordClock clock = Ask.clockOf("new:1;new:1;new:9;when:1,2L;lit:0L;run:1");
        Check.due("no flame", clock.count(3), 0);
        Check.due("it lit nothing", clock.ruleOf(0, 3), 0);
        clock.light(1, false);
        clock.run(1);
        Check.due("its own signal", clock.ruleOf(0, 3), 1);
    }

    private static void ruleOfACordThatIsOut() {
        CordClock clock = Ask.clockOf("new:1;new:2;when:1,0L;when:1,0R;lit:0L;lit:1L", "run:1", "run:1");
        Check.due("no flames", clock.count(3), 0);
        Check.due("lightings", clock.count(6), 2);
        Check.due("it lit nothing", clock.ruleOf(0, 3) + clock.ruleOf(1, 3), 0);
        Check.dueText("the latest entry", Ask.entry(clock, 0), "out 1@2");
        CordClock nearly = Ask.clockOf("new:3;new:2;when:1,0R;lit:0L;lit:1L;run:2");
        Check.due("with one step left it is lit", nearly.ruleOf(0, 3), 1);
    }

    private static void ruleOfACordThatThisStepBurnsOut() {
        CordClock clock = Ask.clockOf("new:2;new:2;when:0,1R;when:1,0R;lit:0L;lit:1L;run:1");
        Check.due("signals", clock.run(1), 2);
        Check.due("the later one is not lit", clock.ruleOf(0, 3), 0);
        Check.due("the earlier one is not lit", clock.ruleOf(1, 3), 0);
        Check.due("no flames", clock.count(3), 0);
        Check.dueText("signals alone", Ask.entry(clock, 1) + " " + Ask.entry(clock, 0), "out 0@2 out 1@2");
    }

    private static void ruleWhereAFlameIs() {
        CordClock clock = Ask.clockOf("new:1;new:9;when:0,1L;when:0,1R;lit:0L;lit:1L;run:1");
        Check.due("no second flame there", clock.ruleOf(0, 3), 0);
        Check.due("the other end is lit", clock.ruleOf(1, 3), 1);
        Check.due("both flames", clock.cordOf(1, 5), 3);
        Check.due("lightings", clock.count(6), 3);
        Check.due("entries", clock.count(9), 4);
    }

    private static void ruleWhereTheSignalBeforeLit() {
        CordClock clock = Ask.clockOf("new:1;new:1;new:9;when:1,2R;when:0,2R;lit:0L;lit:1L;run:1");
        Check.due("the rule of the first signal", clock.ruleOf(1, 3), 1);
        Check.due("the rule of the second signal", clock.ruleOf(0, 3), 0);
        Check.dueText("book", Ask.book(clock), "out 1@1, lit R 2@1, out 0@1, lit L 1@0, lit L 0@0");
    }

    private static void ruleActsAgainAfterRenew() {
        CordClock clock = Ask.clockOf("new:1;new:60;when:0,1L");
        for (int i = 1; i <= 3; i++) {
            clock.renew(0);
            clock.renew(1);
            clock.light(0, true);
            Check.due("signals", clock.run(1), 1);
            Check.due("how often it lit", clock.ruleOf(0, 3), i);
        }
        clock.renew(0);
        clock.light(0, true);
        clock.run(1);
        Check.due("not where its flame burns yet", clock.ruleOf(0, 3), 3);
    }

    private static void chainOfRules() {
        CordClock clock = Ask.clockOf("new:1;new:1;new:1;new:1", "when:0,1L;when:1,2L;when:2,3L;lit:0L");
        for (int i = 1; i <= 4; i++) {
            Check.due("what is lit burns from the next step on", clock.run(1), 1);
            Check.due("cords that are out", clock.count(4), (1 << i) - 1);
            Check.due("flames", clock.count(3), i < 4 ? 1 : 0);
        }
    }

    private static void numberOfTheStep() {
        CordClock clock = Ask.clockOf("new:1;new:1;when:0,1R");
        Check.due("at first", clock.count(0), 0);
        clock.light(0, true);
        clock.run(1);
        Check.due("after a step", clock.count(0), 1);
        Check.due("the signal is in step 1", clock.cordOf(0, 7), 1);
        Check.dueText("before the step, the signal, what it lit", Ask.book(clock), "lit R 1@1, out 0@1, lit L 0@0");
        clock.run(200);
        Check.due("after 201 steps", clock.count(0), 201);
        Check.due("the signal is in step 2", clock.cordOf(1, 7), 2);
    }

    private static void smoke() {
        CordClock clock = Ask.clockOf("new:2;new:3;new:9;new:9", "run:1");
        Check.due("no flame", clock.count(7), 0);
        Ask.execute(clock, "lit:0R;run:2");
        Check.due("the step that burns it out has smoke", clock.count(7), 2);
        clock.run(1);
        Check.due("the step behind it has none", clock.count(7), 2);
        Ask.execute(clock, "lit:1L;lit:2L;lit:2R;run:1");
        Check.due("three flames are one step with smoke", clock.count(7), 3);
        clock.putOut(2, true);
        clock.putOut(2, false);
        clock.run(2);
        Check.due("one flame of four cords is enough", clock.count(7), 5);
        clock.run(200);
        Check.due("no flame is left", clock.count(7), 5);
    }

    private static void noSmokeWithoutAStep() {
        CordClock clock = Ask.clockOf("new:1;new:9;when:0,1L;lit:1R");
        clock.putOut(1, false);
        clock.run(1);
        Check.due("lit and put out before the step", clock.count(7), 0);
        clock.light(0, true);
        clock.run(1);
        Check.due("smoke", clock.count(7), 1);
        clock.putOut(1, true);
        clock.run(1);
        Check.due("lit by a rule and put out before the step", clock.count(7), 1);
        Check.due("the gap of one step", clock.count(8), 1);
    }

    private static void gapOverSeveralCalls() {
        CordClock clock = new CordClock();
        Check.due("no step yet", clock.count(8), 0);
        clock.run(1);
        Check.due("one step", clock.count(8), 1);
        clock.cord(1, 3);
        Ask.execute(clock, "run:2;run:200");
        clock.run(200);
        Check.due("one gap", clock.count(8), 403);
    }

    private static void oneStepWithSmokeEndsAGap() {
        CordClock clock = Ask.clockOf("new:1;run:3;lit:0L;run:1");
        Check.due("the first gap", clock.count(8), 3);
        clock.run(2);
        Check.due("a shorter one", clock.count(8), 3);
        clock.run(1);
        Check.due("one that is as long", clock.count(8), 3);
        clock.run(1);
        Check.due("one that is longer", clock.count(8), 4);
        CordClock smoke = Ask.clockOf("new:9;lit:0L;run:9");
        Check.due("no gap", smoke.count(8), 0);
        smoke.run(1);
        Check.due("the first step behind the smoke", smoke.count(8), 1);
    }

    private static void flameWithoutAStepEndsNoGap() {
        CordClock clock = Ask.clockOf("new:9;run:3;lit:0L");
        clock.putOut(0, true);
        clock.run(4);
        Check.due("one gap", clock.count(8), 7);
    }

    // ---- rules and book

    private static void eightRules() {
        CordClock clock = Ask.clockOf("new:1;new:1;new:1;new:1");
        for (int i = 0; i < 8; i++) {
            Check.due("rules so far", clock.count(2), i);
            Check.due("number of the rule", clock.rule(i % 4, (i + 1) % 4, i < 4), i);
        }
        Check.dueThrow("the ninth", () -> clock.rule(0, 1, true), STATE);
        Check.due("rules", clock.count(2), 8);
        for (int i = 0; i < 8; i++) {
            Check.due("out", clock.ruleOf(i, 0), i % 4);
            Check.due("lit", clock.ruleOf(i, 1), (i + 1) % 4);
            Check.due("left", clock.ruleOf(i, 2), i < 4 ? 1 : 0);
        }
        Check.dueThrow("no rule 8", () -> clock.ruleOf(8, 0), INDEX);
    }

    private static void eightRulesByOrders() {
        CordClock clock = Ask.clockOf("new:1;new:1");
        Check.due("five", Ask.execute(clock, "when:0,1L;when:0,1R;when:1,0L;when:1,0R;when:0,1L"), 5);
        Check.due("three of four", Ask.execute(clock, "when:0,1L;when:0,1L;when:0,1R;when:0,1L"), 3);
        Check.due("rules", clock.count(2), 8);
        Check.due("the eighth", clock.ruleOf(7, 2), 0);
    }

    private static void numbersOfRulesBeginAnew() {
        CordClock clock = Ask.clockOf("new:1;new:9", "when:0,1L;when:0,1L;when:0,1L;when:0,1L", "lit:0L;run:1");
        clock.dropRules();
        Check.due("number of the first rule", clock.rule(1, 0, false), 0);
        Check.due("out", clock.ruleOf(0, 0), 1);
        Check.due("lit", clock.ruleOf(0, 1), 0);
        Check.due("right", clock.ruleOf(0, 2), 0);
        Check.due("how often", clock.ruleOf(0, 3), 0);
        for (int i = 1; i < 8; i++) {
            Check.due("number of the rule", clock.rule(1, 0, false), i);
        }
        Check.dueThrow("the ninth", () -> clock.rule(1, 0, false), STATE);
    }

    private static void theEighthRuleActs() {
        CordClock clock = Ask.clockOf("new:1;new:9", "when:1,0L;when:1,0L;when:1,0L;when:1,0L;when:1,0L;when:1,0L");
        Ask.execute(clock, "when:1,0L;when:0,1R;lit:0L;run:1");
        Check.due("how often it lit", clock.ruleOf(7, 3), 1);
        Check.due("its flame", clock.cordOf(1, 5), 2);
    }

    private static void emptyBook() {
        CordClock clock = Ask.clockOf("new:9;run:5");
        Check.due("entries", clock.count(9), 0);
        for (int ago : new int[] {0, 1, 7, 8, Ask.HIGH}) {
            Check.due("no entry " + ago, clock.entry(ago, 0), CordClock.NONE);
        }
    }

    private static void latestEightEntries() {
        CordClock clock = new CordClock();
        clock.cord(1, 60);
        for (int written = 1; written <= 26; written++) {
            clock.light(0, written % 2 == 0);
            int known = Math.min(written, 8);
            Check.due("entries known of " + written, clock.count(9), known);
            for (int ago = 0; ago < known; ago++) {
                int step = written - 1 - ago;
                Check.dueText("entry " + ago + " of " + written, Ask.entry(clock, ago),
                    (step % 2 == 1 ? "lit L 0@" : "lit R 0@") + step);
            }
            Check.due("behind them", clock.entry(known, 0), CordClock.NONE);
            clock.run(1);
            clock.putOut(0, written % 2 == 0);
        }
    }

    private static void moreEntriesThanEightInAStep() {
        CordClock clock = Ask.clockOf("new:1;new:1;new:9;new:9", "when:0,2L;when:0,3L;when:1,2R;when:1,3R");
        Ask.execute(clock, "lit:0L;lit:0R;lit:1L;lit:1R");
        Check.due("four entries", clock.count(9), 4);
        clock.run(1);
        Check.due("eight of ten entries", clock.count(9), 8);
        Check.dueText("the latest eight", Ask.book(clock), "lit R 3@1, lit R 2@1, out 1@1, lit L 3@1, lit L 2@1, out 0@1, "
            + "lit R 1@0, lit L 1@0");
    }

    private static void whatIsNoEntry() {
        CordClock clock = Ask.clockOf("new:9.9;lit:0L");
        clock.putOut(0, true);
        clock.renew(0);
        clock.uneven(0, 0, 1);
        clock.cord(1, 1);
        clock.rule(0, 1, true);
        clock.dropRules();
        clock.run(1);
        clock.keep(0);
        clock.goBack(0);
        Check.dueText("one entry", Ask.book(clock), "lit L 0@0");
    }

    private static void textsOfEachKind() {
        CordClock clock = Ask.clockOf("new:1;new:60;new:60;new:15", "lit:3L;run:15", "lit:2R;lit:0L;run:1");
        String[] want = {"out 0@16", "lit L 0@15", "lit R 2@15", "out 3@15", "lit L 3@0"};
        for (int ago = 0; ago < want.length; ago++) {
            for (int i = 0; i < want[ago].length(); i++) {
                Check.due(want[ago] + " at " + i, clock.entry(ago, i), want[ago].charAt(i));
            }
            Check.due("behind " + want[ago], clock.entry(ago, want[ago].length()), CordClock.NONE);
        }
    }

    private static void stepsOfOneToSixDigits() {
        CordClock clock = new CordClock();
        clock.cord(1, 60);
        int step = 0;
        for (int want : new int[] {0, 9, 10, 99, 100, 999, 1000, 9999, 10000, 99999, 100000}) {
            while (step < want) {
                int steps = Math.min(200, want - step);
                clock.run(steps);
                step += steps;
            }
            clock.light(0, true);
            Check.dueText("entry", Ask.entry(clock, 0), "lit L 0@" + want);
            clock.putOut(0, true);
        }
    }

    // ---- telling times

    /** The times that some cords can tell, from the least one on. */
    private static void told(CordClock clock, int cords, int... want) {
        Check.due("how many", clock.tellable(cords, CordClock.NONE), want.length);
        for (int rank = 0; rank < want.length; rank++) {
            Check.due("rank " + rank, clock.tellable(cords, rank), want[rank]);
        }
        Check.due("behind the last rank", clock.tellable(cords, want.length), CordClock.NONE);
    }

    private static void threeCords() {
        CordClock clock = Ask.clockOf("new:1;new:2;new:4;new:8");
        for (int cords = 0; cords < 15; cords++) {
            int total = 0;
            for (int i = 0; i < 4; i++) {
                total += (cords >> i & 1) << i;
            }
            int times = clock.tellable(cords, CordClock.NONE);
            Check.due("the greatest time of the set " + cords, clock.tellable(cords, times - 1 < 0 ? 0 : times - 1),
                total == 0 ? CordClock.NONE : total);
            Check.due("lightings", clock.fewestFlames(cords, Math.max(total, 1)),
                total == 0 ? CordClock.NONE : Integer.bitCount(cords));
        }
        Check.dueThrow("four cords", () -> clock.tellable(15, 0), ARGUMENT);
        Check.dueThrow("four cords", () -> clock.fewestFlames(15, 1), ARGUMENT);
    }

    private static void asIfNew() {
        CordClock clock = Ask.clockOf("new:6;new:8;lit:0L;lit:1L;lit:1R;run:3");
        told(clock, 1, 3, 6);
        told(clock, 2, 4, 8);
        clock.run(3);
        Check.due("both are burned out", clock.count(4), 3);
        told(clock, 1, 3, 6);
        told(clock, 2, 4, 8);
        Check.due("lightings", clock.fewestFlames(1, 3), 2);
        clock.renew(0);
        clock.uneven(0, 0, 10);
        told(clock, 1, 5, 10);
    }

    private static void withoutRules() {
        CordClock clock = Ask.clockOf("new:6;new:8;when:0,1L;when:0,1R;when:1,0L");
        told(clock, 3, 3, 4, 5, 6, 7, 8, 10, 11, 14);
        Check.due("both are lit by the plan", clock.fewestFlames(3, 14), 2);
        Check.due("the other end is lit by the plan", clock.fewestFlames(3, 7), 3);
        clock.dropRules();
        told(clock, 3, 3, 4, 5, 6, 7, 8, 10, 11, 14);
    }

    private static void onlyAtSignals() {
        CordClock clock = Ask.clockOf("new:60;new:60");
        told(clock, 1, 30, 60);
        told(clock, 3, 30, 45, 60, 90, 120);
        for (int time = 1; time < 30; time++) {
            Check.due("no signal before", clock.fewestFlames(3, time), CordClock.NONE);
        }
        Check.due("not in the middle of a cord", clock.fewestFlames(1, 45), CordClock.NONE);
    }

    private static void manyAtOneSignal() {
        CordClock clock = Ask.clockOf("new:3;new:7;new:17;new:60");
        // Both ends at the beginning, both ends of the next cord at 2; no plan with one end more at a signal tells these.
        Check.due("two ends at one signal", clock.fewestFlames(3, 6), 4);
        Check.due("two ends at one signal", clock.fewestFlames(5, 11), 4);
        Check.due("among two other cords", clock.fewestFlames(7, 6), 4);
        Check.due("two ends at once, so one lighting fewer", clock.fewestFlames(7, 13), 4);
        Check.due("two ends at the second signal", clock.fewestFlames(7, 18), 5);
    }

    private static void whicheverCordIsFirst() {
        int[][] orders = {{2, 4, 8}, {2, 8, 4}, {4, 2, 8}, {4, 8, 2}, {8, 2, 4}, {8, 4, 2}};
        int[] lightings = {2, 1, 3, 1, 3, 2, 4, 1, 3, 2, 4, 2, 4, 3};
        for (int[] times : orders) {
            CordClock clock = new CordClock();
            for (int time : times) {
                clock.cord(1, time);
            }
            for (int i = 0; i < lightings.length; i++) {
                Check.due("lightings for " + (i + 1), clock.fewestFlames(7, i + 1), lightings[i]);
            }
            told(clock, 7, 1, 2, 3, 4, 5, 6, 7, 8, 9, 10, 11, 12, 13, 14);
        }
    }

    private static void noneAtASignal() {
        CordClock clock = Ask.clockOf("new:10;new:60");
        Check.due("nothing is lit at 10", clock.fewestFlames(3, 60), 1);
        Check.due("the other end is lit at 10", clock.fewestFlames(3, 35), 3);
        told(clock, 3, 5, 10, 30, 33, 35, 40, 60, 65, 70);
    }

    private static void threeSignals() {
        CordClock clock = Ask.clockOf("new:2;new:4;new:6");
        Check.due("one cord after the other", clock.fewestFlames(7, 12), 3);
        Check.due("the greatest time", clock.tellable(7, clock.tellable(7, CordClock.NONE) - 1), 12);
        Check.due("behind three signals", clock.fewestFlames(7, 13), CordClock.NONE);
        CordClock alike = Ask.clockOf("new:1;new:1;new:1");
        told(alike, 7, 1, 2, 3);
    }

    private static void leastAndGreatestToldTime() {
        CordClock clock = Ask.clockOf("new:1", "new:60.60.60.60.60.60", "new:60.60.60.60.60.60", "new:60.60.60.60.60.60");
        told(clock, 1, 1);
        told(clock, 8, 180, 360);
        Check.due("the least time of three", clock.tellable(7, 0), 1);
        int times = clock.tellable(14, CordClock.NONE);
        Check.due("the greatest time", clock.tellable(14, times - 1), 1080);
        Check.due("its lightings", clock.fewestFlames(14, 1080), 3);
        Check.due("one step less", clock.fewestFlames(14, 1079), CordClock.NONE);
    }

    private static void countedFromTheBeginning() {
        CordClock clock = Ask.clockOf("new:4;run:100", "lit:0L;run:2");
        told(clock, 1, 2, 4);
        clock.run(50);
        told(clock, 1, 2, 4);
    }

    private static void eachFlameIsALighting() {
        CordClock clock = Ask.clockOf("new:4;new:4;new:4");
        Check.due("one end", clock.fewestFlames(1, 4), 1);
        Check.due("both ends", clock.fewestFlames(1, 2), 2);
        Check.due("both ends of two cords", clock.fewestFlames(3, 4), 1);
        Check.due("one end after both ends", clock.fewestFlames(3, 6), 3);
        Check.due("one end, at once with both ends, then the other one", clock.fewestFlames(3, 3), 4);
        Check.due("three cords", clock.fewestFlames(7, 12), 3);
    }
}
