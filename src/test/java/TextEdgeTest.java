import java.io.IOException;

/** The boundary cases of each sentence about order texts, undo and snapshots: two of the terms, promises 10 to 16. */
public final class TextEdgeTest {
    private static final Class<?> ARGUMENT = IllegalArgumentException.class;
    private static final Class<?> STATE = IllegalStateException.class;
    private static final String ANY_DIGIT = "0123456789";
    private static final String NO_ZERO = "123456789";
    private static final String WORDS = "nlwr";
    private static final String SIXTY = "run:1;run:1;run:1;run:1;run:1;run:1;run:1;run:1;run:1;run:10";

    public static void main(String[] args) throws IOException {
        Sentences document = new Sentences(args, "Order text", "Undo and snapshots", "Promise 10", "Promise 11",
            "Promise 12", "Promise 13", "Promise 14", "Promise 15", "Promise 16");
        orderText(document);
        undoAndSnapshots(document);
        buffer(document);
        executing(document);
        undoing(document);
        keeping(document);
        document.end("TextEdgeTest");
    }

    private static void orderText(Sentences document) {
        document.test("Order text", "The buffer holds at most 60", TextEdgeTest::sixtyCharacters);
        document.test("Order text", "The buffer holds at most 60", TextEdgeTest::sixtyCharactersAnew);
        document.test("Order text", "It is empty at first", TextEdgeTest::emptyAtFirst);
        document.test("Order text", "An order text is one or more", TextEdgeTest::noneOneAndMoreOrders);
        document.test("Order text", "An order text is one or more", TextEdgeTest::onlyBetweenThem);
        document.test("Order text", "An order is a word", TextEdgeTest::oneToSixTimes);
        document.test("Order text", "An order is a word", TextEdgeTest::bothMayBeTheSame);
        document.test("Order text", "An order is a word", TextEdgeTest::oneTo200Steps);
        document.test("Order text", "An order is a word", TextEdgeTest::incompleteOrders);
        document.test("Order text", "An order is a word", TextEdgeTest::eachOrderDoesWhatItsMethodDoes);
        document.test("Order text", "A cord is a digit", TextEdgeTest::cords0To3);
        document.test("Order text", "A cord is a digit", TextEdgeTest::times1To60);
        document.test("Order text", "Numbers have no leading zeros", TextEdgeTest::noLeadingZeros);
        document.test("Order text", "The first error of the buffer", TextEdgeTest::whatMayFollow);
        document.test("Order text", "The first error of the buffer", TextEdgeTest::whatMayFollowNumbers);
        document.test("Order text", "The first error of the buffer", TextEdgeTest::firstOfSeveral);
    }

    private static void undoAndSnapshots(Sentences document) {
        String heading = "Undo and snapshots";
        document.test(heading, "The state consists of everything", TextEdgeTest::undoRestoresTheState);
        document.test(heading, "The state consists of everything", TextEdgeTest::restoresAFullBook);
        document.test(heading, "The state consists of everything", TextEdgeTest::restoresOtherCordsAndRules);
        document.test(heading, "The state consists of everything", TextEdgeTest::undoLeavesTheRest);
        document.test(heading, "The state consists of everything", TextEdgeTest::goBackLeavesTheRest);
        document.test(heading, "Each method that is marked", TextEdgeTest::savesEvenIfNothingChanges);
        document.test(heading, "Each method that is marked", TextEdgeTest::savesNotIfItThrows);
        document.test(heading, "Each method that is marked", TextEdgeTest::othersSaveNothing);
        document.test(heading, "At most 6 states", TextEdgeTest::sixStates);
        document.test(heading, "At most 6 states", TextEdgeTest::droppedOnesRoundAndRound);
        document.test(heading, "At most 6 states", TextEdgeTest::savedBetweenUndoes);
        document.test(heading, "There are two snapshot slots", TextEdgeTest::twoEmptySlots);
    }

    private static void buffer(Sentences document) {
        document.test("Promise 10", "Appends a character", TextEdgeTest::appendsBehindTheOthers);
        document.test("Promise 10", "- `code`: a character code", TextEdgeTest::codes33To126);
        document.test("Promise 10", "Returns the new length", TextEdgeTest::lengths1To60);
        document.test("Promise 10", "Throws `IllegalArgumentException`", TextEdgeTest::codesOutOfRange);
        document.test("Promise 10", "Throws `IllegalStateException`", TextEdgeTest::fullBuffer);
        document.test("Promise 11", "Clears the buffer", TextEdgeTest::clears);
        document.test("Promise 11", "Returns the length that it had", TextEdgeTest::clearedLengths);
        document.test("Promise 12", "Finds the first error", TextEdgeTest::errorAtEachPlace);
        document.test("Promise 12", "Returns its index; the length", TextEdgeTest::lengthIfNoError);
    }

    private static void executing(Sentences document) {
        document.test("Promise 13", "Executes the orders", TextEdgeTest::oneAfterTheOther);
        document.test("Promise 13", "Executes the orders", TextEdgeTest::noneOfTheTextsBefore);
        document.test("Promise 13", "Executes the orders", TextEdgeTest::upToTheFifthCord);
        document.test("Promise 13", "Executes the orders", TextEdgeTest::upToAnEndThatCannotBeLit);
        document.test("Promise 13", "Executes the orders", TextEdgeTest::upToARuleThatCannotBe);
        document.test("Promise 13", "Executes the orders", TextEdgeTest::clearsInEachCase);
        document.test("Promise 13", "Undoable, as one call", TextEdgeTest::executeIsUndoneAsOne);
        document.test("Promise 13", "Undoable, as one call", TextEdgeTest::undoableEvenWithoutAnOrder);
        document.test("Promise 13", "Returns how many orders", TextEdgeTest::noneToAllOrders);
        document.test("Promise 13", "Throws `IllegalArgumentException`", TextEdgeTest::notComplete);
    }

    private static void undoing(Sentences document) {
        document.test("Promise 14", "Restores the state that was saved last", TextEdgeTest::lastSavedFirst);
        document.test("Promise 14", "Returns the number of saved states", TextEdgeTest::statesLeft);
        document.test("Promise 14", "Throws `IllegalStateException`", TextEdgeTest::noStateIsSaved);
    }

    private static void keeping(Sentences document) {
        document.test("Promise 15", "Takes a snapshot of the state", TextEdgeTest::replacesTheOneInTheSlot);
        document.test("Promise 15", "Takes a snapshot of the state", TextEdgeTest::snapshotOfAnEmptyClock);
        document.test("Promise 15", "- `slot`: 0 or 1", TextEdgeTest::slotsForKeep);
        document.test("Promise 15", "Returns the number of the step", TextEdgeTest::stepOfKeep);
        document.test("Promise 15", "Throws `IllegalArgumentException`", TextEdgeTest::noSlotForKeep);
        document.test("Promise 16", "Restores a snapshot, which stays", TextEdgeTest::snapshotStays);
        document.test("Promise 16", "Undoable", TextEdgeTest::goBackIsUndone);
        document.test("Promise 16", "- `slot`: 0 or 1", TextEdgeTest::slotsForGoBack);
        document.test("Promise 16", "Returns the number of the step after", TextEdgeTest::stepOfGoBack);
        document.test("Promise 16", "Throws `IllegalArgumentException`", TextEdgeTest::noSlotForGoBack);
        document.test("Promise 16", "Throws `IllegalStateException`", TextEdgeTest::emptySlot);
    }

    // ---- the buffer and its texts

    private static CordClock typed(String text) {
        CordClock clock = new CordClock();
        Ask.type(clock, text);
        return clock;
    }

    private static void sixtyCharacters() {
        CordClock clock = new CordClock();
        Check.due("sixty", SIXTY.length(), 60);
        for (int i = 0; i < 60; i++) {
            Check.due("length", clock.append(SIXTY.charAt(i)), i + 1);
        }
        Check.dueThrow("the 61st", () -> clock.append('0'), STATE);
        Check.due("length", clock.count(11), 60);
        Check.due("the 60th counts", clock.execute(), 10);
        Check.due("steps", clock.count(0), 19);
    }

    private static void sixtyCharactersAnew() {
        CordClock clock = typed(SIXTY);
        Check.due("cleared", clock.clearBuffer(), 60);
        for (int i = 1; i <= 60; i++) {
            Check.due("length", clock.append('~'), i);
        }
        Check.dueThrow("the 61st", () -> clock.append('~'), STATE);
        CordClock executed = typed(SIXTY);
        executed.execute();
        Ask.type(executed, SIXTY);
        Check.dueThrow("the 61st behind execute", () -> executed.append('~'), STATE);
    }

    private static void emptyAtFirst() {
        CordClock clock = new CordClock();
        Check.due("length", clock.count(11), 0);
        Check.due("no error", clock.firstError(), 0);
        Check.due("cleared", clock.clearBuffer(), 0);
        Check.dueThrow("no order", () -> clock.execute(), ARGUMENT);
        Check.due("the first character", clock.append('r'), 1);
    }

    private static void noneOneAndMoreOrders() {
        Check.dueThrow("none", () -> typed("").execute(), ARGUMENT);
        Check.due("one", typed("run:1").execute(), 1);
        Check.due("two", typed("run:1;run:2").execute(), 2);
        Check.due("the most of a kind", typed("run:1;run:1;run:1;run:1;run:1;run:1;run:1;run:1;run:1;run:1").execute(), 10);
        Check.due("one of each word", typed("new:1;new:2;lit:0L;when:0,1R;run:1").execute(), 5);
    }

    private static void onlyBetweenThem() {
        Check.due("ahead of all orders", typed(";run:1").firstError(), 0);
        Check.due("twice between orders", typed("run:1;;run:1").firstError(), 6);
        Check.due("another sign between orders", typed("run:1,run:1").firstError(), 5);
        Check.due("none between orders", typed("lit:0Llit:0R").firstError(), 6);
        Check.due("behind all orders an order may come", typed("run:1;").firstError(), 6);
        Check.dueThrow("but one must", () -> typed("run:1;").execute(), ARGUMENT);
        Check.dueThrow("ahead of all orders", () -> typed(";run:1").execute(), ARGUMENT);
    }

    private static void oneToSixTimes() {
        Check.dueThrow("no time", () -> typed("new:").execute(), ARGUMENT);
        StringBuilder text = new StringBuilder("new:60");
        for (int times = 1; times <= 6; times++) {
            CordClock clock = typed(text.toString());
            Check.due("no error", clock.firstError(), text.length());
            Check.due("executed", clock.execute(), 1);
            Check.due("segments", clock.cordOf(0, 1), times);
            Check.due("time", clock.cordOf(0, 0), 60 * times);
            text.append(".60");
        }
        Check.due("a seventh time", typed(text.toString()).firstError(), text.length() - 3);
        Check.dueThrow("a seventh time", () -> typed(text.toString()).execute(), ARGUMENT);
        Check.due("the order behind six times", typed("new:1.1.1.1.1.1;new:1.1.1.1.1.1.1").firstError(), 31);
    }

    private static void bothMayBeTheSame() {
        for (int cord = 0; cord < 4; cord++) {
            String text = "when:" + cord + "," + cord + "L";
            Check.due("no syntax error", typed(text).firstError(), text.length());
            CordClock clock = Ask.clockOf("new:1;new:1;new:1;new:1");
            Check.due("but no rule", Ask.execute(clock, text), 0);
            Check.due("rules", clock.count(2), 0);
        }
    }

    private static void oneTo200Steps() {
        for (int steps = 1; steps <= 200; steps++) {
            CordClock clock = typed("run:" + steps);
            Check.due("no error", clock.firstError(), clock.count(11));
            Check.due("executed", clock.execute(), 1);
            Check.due("steps", clock.count(0), steps);
        }
        for (int steps : new int[] {0, 201, 299, 300, 999, 1000, 2000}) {
            Check.dueThrow("run:" + steps, () -> typed("run:" + steps).execute(), ARGUMENT);
        }
    }

    private static void incompleteOrders() {
        for (String whole : new String[] {"new:60.1", "lit:0L", "when:0,1R", "run:200"}) {
            for (int length = 0; length < whole.length(); length++) {
                String text = whole.substring(0, length);
                boolean complete = text.equals("new:6") || text.equals("new:60") || text.equals("run:2") || text.equals("run:20");
                Check.due("no error in " + text, typed(text).firstError(), length);
                if (!complete) {
                    Check.dueThrow("not complete: " + text, () -> typed(text).execute(), ARGUMENT);
                    Check.dueThrow("not complete: run:1;" + text, () -> typed("run:1;" + text).execute(), ARGUMENT);
                }
            }
        }
    }

    private static void eachOrderDoesWhatItsMethodDoes() {
        CordClock orders = Ask.clockOf("new:7.7.7", "new:2", "when:1,0R", "lit:1L", "lit:1R", "run:3");
        CordClock calls = new CordClock();
        calls.cord(3, 7);
        calls.cord(1, 2);
        calls.rule(1, 0, false);
        calls.light(1, true);
        calls.light(1, false);
        calls.run(3);
        for (int left = 5; left >= 0; left--) {
            Check.dueText("after " + (left + 1), Ask.all(orders), Ask.all(calls));
            Check.due("undone", orders.undo(), calls.undo());
        }
    }

    private static void cords0To3() {
        for (char sign = 33; sign <= 126; sign++) {
            boolean cord = sign >= '0' && sign <= '3';
            Check.due("lit:" + sign, typed("lit:" + sign).firstError(), cord ? 5 : 4);
            Check.due("when:" + sign, typed("when:" + sign).firstError(), cord ? 6 : 5);
            Check.due("when:0," + sign, typed("when:0," + sign).firstError(), cord ? 8 : 7);
        }
        CordClock clock = Ask.clockOf("new:9;new:9;new:9;new:9");
        Check.due("all of them", Ask.execute(clock, "lit:0L;lit:3R;when:0,3L;when:3,0R"), 4);
        Check.due("cord 0", clock.cordOf(0, 5), 1);
        Check.due("cord 3", clock.cordOf(3, 5), 2);
        Check.due("from 0 to 3", clock.ruleOf(0, 0) * 10 + clock.ruleOf(0, 1), 3);
        Check.due("from 3 to 0", clock.ruleOf(1, 0) * 10 + clock.ruleOf(1, 1), 30);
    }

    private static void times1To60() {
        for (int time = 1; time <= 60; time++) {
            CordClock clock = typed("new:" + time + "." + time);
            Check.due("executed", clock.execute(), 1);
            Check.due("first segment", clock.segment(0, 0), time);
            Check.due("second segment", clock.segment(0, 1), time);
        }
        for (int time : new int[] {0, 61, 62, 69, 70, 99, 100, 600}) {
            Check.dueThrow("new:" + time, () -> typed("new:" + time).execute(), ARGUMENT);
            Check.dueThrow("new:1." + time, () -> typed("new:1." + time).execute(), ARGUMENT);
        }
    }

    private static void noLeadingZeros() {
        for (String text : new String[] {"new:0", "new:01", "new:00", "run:0", "run:01", "run:001", "run:0200"}) {
            Check.due("a zero first in " + text, typed(text).firstError(), 4);
            Check.dueThrow(text, () -> typed(text).execute(), ARGUMENT);
        }
        Check.due("a zero first in a later time", typed("new:10.01").firstError(), 7);
        Check.due("zeros behind are no error", typed("new:10.20;run:100").firstError(), 17);
    }

    /** Behind the text only these characters may follow. */
    private static void follow(String text, String allowed) {
        for (char sign = 33; sign <= 126; sign++) {
            boolean fits = allowed.indexOf(sign) >= 0;
            Check.due(text + sign, typed(text + sign).firstError(), text.length() + (fits ? 1 : 0));
        }
    }

    private static void whatMayFollow() {
        for (String ahead : new String[] {"", "run:200;", "lit:3R;", "new:1.1.1.1.1.60;"}) {
            follow(ahead, WORDS);
            for (String word : new String[] {"new", "lit", "when", "run"}) {
                for (int length = 1; length < word.length(); length++) {
                    follow(ahead + word.substring(0, length), word.substring(length, length + 1));
                }
                follow(ahead + word, ":");
            }
            follow(ahead + "lit:", "0123");
            follow(ahead + "lit:0", "LR");
            follow(ahead + "lit:3R", ";");
            follow(ahead + "lit:3L", ";");
            follow(ahead + "when:", "0123");
            follow(ahead + "when:3", ",");
            follow(ahead + "when:3,", "0123");
            follow(ahead + "when:3,3", "LR");
            follow(ahead + "when:3,0L", ";");
        }
    }

    private static void whatMayFollowNumbers() {
        for (String ahead : new String[] {"new:", "new:7.", "new:1.1.1.1.", "lit:0L;new:1."}) {
            follow(ahead, NO_ZERO);
            follow(ahead + "1", ANY_DIGIT + ".;");
            follow(ahead + "5", ANY_DIGIT + ".;");
            follow(ahead + "6", "0.;");
            follow(ahead + "7", ".;");
            follow(ahead + "9", ".;");
            follow(ahead + "10", ".;");
            follow(ahead + "60", ".;");
        }
        follow("new:1.1.1.1.1.", NO_ZERO);
        follow("new:1.1.1.1.1.1", ANY_DIGIT + ";");
        follow("new:1.1.1.1.1.6", "0;");
        follow("new:1.1.1.1.1.60", ";");
        for (String ahead : new String[] {"run:", "new:60;run:"}) {
            follow(ahead, NO_ZERO);
            follow(ahead + "1", ANY_DIGIT + ";");
            follow(ahead + "2", ANY_DIGIT + ";");
            follow(ahead + "9", ANY_DIGIT + ";");
            follow(ahead + "10", ANY_DIGIT + ";");
            follow(ahead + "19", ANY_DIGIT + ";");
            follow(ahead + "20", "0;");
            follow(ahead + "21", ";");
            follow(ahead + "99", ";");
            follow(ahead + "100", ";");
            follow(ahead + "200", ";");
        }
    }

    private static void firstOfSeveral() {
        Check.due("two errors", typed("run:0;run:0").firstError(), 4);
        Check.due("an error in the first and the third order", typed("lit:4L;run:1;new:61").firstError(), 4);
        Check.due("all characters are errors", typed("~~~~").firstError(), 0);
        Check.due("the error is in the last order", typed("run:1;run:1;run:201").firstError(), 18);
    }

    // ---- undo and snapshots

    private static CordClock busy() {
        CordClock clock = Ask.clockOf("new:4.5;new:2;new:9;when:1,0R;lit:1L;lit:2L", "run:3");
        clock.putOut(2, true);
        return clock;
    }

    /** Changes all that the state has: cords, flames, burned parts, rules, the book, each count. */
    private static void change(CordClock clock) {
        clock.putOut(0, false);
        clock.run(50);
        Ask.execute(clock, "new:7;when:3,0L;lit:3R;run:9;lit:2R;run:2");
        clock.renew(1);
        clock.uneven(1, 0, 44);
    }

    private static void undoRestoresTheState() {
        CordClock clock = busy();
        String before = Ask.state(clock);
        change(clock);
        Check.due("another state", Ask.state(clock).equals(before) ? 0 : 1, 1);
        for (int i = 0; i < 5; i++) {
            clock.undo();
        }
        Check.dueText("the state", Ask.state(clock), before);
        CordClock twin = busy();
        clock.run(7);
        twin.run(7);
        Check.dueText("what follows", Ask.state(clock), Ask.state(twin));
    }

    private static void restoresAFullBook() {
        CordClock clock = Ask.clockOf("new:60;new:60;new:60;new:60");
        for (int i = 0; i < 11; i++) {
            clock.light(i % 4, i % 2 == 0);
            clock.putOut(i % 4, i % 2 == 0);
            clock.run(1);
        }
        clock.keep(0);
        String book = Ask.book(clock);
        String eight = "lit:3R;lit:2R;lit:1R;lit:0R;lit:3L;lit:2L;lit:1L;lit:0L";
        Check.due("eight entries more", Ask.execute(clock, eight), 8);
        String later = Ask.book(clock);
        Check.due("none of the entries is left", later.contains("@10") ? 1 : 0, 0);
        clock.undo();
        Check.dueText("the book by undo", Ask.book(clock), book);
        Ask.execute(clock, eight);
        clock.goBack(0);
        Check.dueText("the book by goBack", Ask.book(clock), book);
        clock.undo();
        Check.dueText("the book by undo of goBack", Ask.book(clock), later);
    }

    private static void restoresOtherCordsAndRules() {
        CordClock clock = new CordClock();
        clock.keep(0);
        Ask.execute(clock, "new:1.2.3.4.5.6;new:60;when:0,1L;when:1,0R;lit:1R;run:60");
        clock.keep(1);
        String first = Ask.state(clock);
        clock.goBack(0);
        Ask.execute(clock, "new:9;new:8.7;new:3;when:2,1R;when:2,0L;when:0,2L");
        Ask.execute(clock, "lit:2L;run:5");
        String second = Ask.state(clock);
        clock.goBack(1);
        Check.dueText("cords and rules that had the same numbers", Ask.state(clock), first);
        clock.undo();
        Check.dueText("and those behind them", Ask.state(clock), second);
    }

    private static void undoLeavesTheRest() {
        CordClock clock = busy();
        Ask.type(clock, "run:5");
        clock.keep(0);
        String kept = Ask.state(clock);
        clock.run(1);
        Ask.type(clock, ";run:6");
        clock.keep(1);
        String later = Ask.state(clock);
        clock.undo();
        clock.undo();
        Check.due("the buffer", clock.count(11), 11);
        Check.due("its orders", clock.execute(), 2);
        Check.due("the slot", clock.goBack(0), 3);
        Check.dueText("the snapshot", Ask.state(clock), kept);
        Check.due("the other slot", clock.goBack(1), 4);
        Check.dueText("the other snapshot", Ask.state(clock), later);
    }

    private static void goBackLeavesTheRest() {
        CordClock clock = new CordClock();
        clock.keep(0);
        clock.run(1);
        clock.keep(1);
        clock.cord(1, 1);
        Ask.type(clock, "new:5");
        Check.due("back", clock.goBack(0), 0);
        Check.due("saved states", clock.count(10), 3);
        Check.due("the buffer", clock.count(11), 5);
        Check.due("the other slot", clock.goBack(1), 1);
        Check.due("undone", clock.undo(), 3);
        Check.due("undone", clock.undo(), 2);
        Check.due("cords", clock.count(1), 1);
    }

    private static void savesEvenIfNothingChanges() {
        Twins.undoable("renew of a new cord", () -> Ask.clockOf("new:4"), clock -> clock.renew(0));
        Twins.undoable("uneven with the same time", () -> Ask.clockOf("new:4"), clock -> clock.uneven(0, 0, 4));
        Twins.undoable("dropRules without rules", () -> Ask.clockOf("new:4"), clock -> clock.dropRules());
        Twins.undoable("dropRules of a new clock", CordClock::new, clock -> clock.dropRules());
        Twins.undoable("execute of no order", () -> Ask.clockOf("new:4"), clock -> Ask.execute(clock, "lit:1L"));
        Twins.undoable("goBack to the same state", TextEdgeTest::justKept, clock -> clock.goBack(1));
    }

    private static CordClock justKept() {
        CordClock clock = busy();
        clock.keep(1);
        return clock;
    }

    private static void savesNotIfItThrows() {
        CordClock clock = Ask.clockOf("new:4;new:4;new:4;new:4");
        Ask.type(clock, "run");
        Check.dueThrow("cord", () -> clock.cord(1, 1), STATE);
        Check.dueThrow("uneven", () -> clock.uneven(0, 0, 61), ARGUMENT);
        Check.dueThrow("renew", () -> clock.renew(4), IndexOutOfBoundsException.class);
        Check.dueThrow("light", () -> clock.light(4, true), IndexOutOfBoundsException.class);
        Check.dueThrow("putOut", () -> clock.putOut(0, true), STATE);
        Check.dueThrow("rule", () -> clock.rule(0, 0, true), ARGUMENT);
        Check.dueThrow("run", () -> clock.run(0), ARGUMENT);
        Check.dueThrow("execute", () -> clock.execute(), ARGUMENT);
        Check.dueThrow("goBack", () -> clock.goBack(0), STATE);
        Check.due("saved", clock.count(10), 1);
        Check.due("the one call", clock.undo(), 0);
        Check.due("cords", clock.count(1), 0);
    }

    private static void othersSaveNothing() {
        CordClock clock = busy();
        clock.append('r');
        clock.clearBuffer();
        clock.append('x');
        clock.firstError();
        clock.keep(0);
        clock.keep(1);
        Ask.all(clock);
        Check.due("saved", clock.count(10), 3);
        clock.outIn(0);
        clock.lasts(0, 1, 0);
        clock.tellable(7, 0);
        clock.fewestFlames(7, 1);
        clock.burned();
        Check.due("saved", clock.count(10), 3);
        clock.undo();
        Check.due("undo itself saves nothing", clock.count(10), 2);
        Check.due("the flame is back", clock.cordOf(2, 5), 1);
    }

    private static void sixStates() {
        CordClock clock = new CordClock();
        for (int call = 1; call <= 8; call++) {
            clock.run(10);
            Check.due("saved after call " + call, clock.count(10), Math.min(call, 6));
        }
        for (int left = 5; left >= 0; left--) {
            Check.due("left", clock.undo(), left);
            Check.due("step", clock.count(0), 20 + 10 * left);
        }
        Check.dueThrow("the oldest two are dropped", () -> clock.undo(), STATE);
        CordClock six = new CordClock();
        for (int call = 1; call <= 6; call++) {
            six.run(10);
        }
        for (int left = 5; left >= 0; left--) {
            Check.due("left of six", six.undo(), left);
        }
        Check.due("the oldest of six is not dropped", six.count(0), 0);
    }

    private static void droppedOnesRoundAndRound() {
        for (int calls = 5; calls <= 20; calls++) {
            CordClock clock = new CordClock();
            for (int call = 1; call <= calls; call++) {
                clock.run(call);
            }
            for (int i = 0; i < Math.min(calls, 6); i++) {
                clock.undo();
                int done = calls - 1 - i;
                Check.due("step after undo " + i + " of " + calls, clock.count(0), done * (done + 1) / 2);
            }
            Check.dueThrow("none left", () -> clock.undo(), STATE);
        }
    }

    private static void savedBetweenUndoes() {
        CordClock clock = new CordClock();
        for (int call = 1; call <= 7; call++) {
            clock.run(1);
        }
        Check.due("left", clock.undo(), 5);
        Check.due("left", clock.undo(), 4);
        clock.run(100);
        clock.run(100);
        Check.due("saved", clock.count(10), 6);
        clock.run(100);
        int[] steps = {205, 105, 5, 4, 3, 2};
        for (int i = 0; i < 6; i++) {
            Check.due("left", clock.undo(), 5 - i);
            Check.due("step", clock.count(0), steps[i]);
        }
        Check.dueThrow("none left", () -> clock.undo(), STATE);
    }

    private static void twoEmptySlots() {
        CordClock clock = busy();
        Check.dueThrow("slot 0 at first", () -> clock.goBack(0), STATE);
        Check.dueThrow("slot 1 at first", () -> clock.goBack(1), STATE);
        clock.keep(1);
        Check.dueThrow("slot 0 is empty yet", () -> clock.goBack(0), STATE);
        Check.due("slot 1", clock.goBack(1), 3);
        clock.run(2);
        clock.keep(0);
        Check.due("slot 1 is as it was", clock.goBack(1), 3);
        Check.due("slot 0", clock.goBack(0), 5);
        Check.dueThrow("no slot 2", () -> clock.goBack(2), ARGUMENT);
    }

    // ---- promises 10 to 12

    private static void appendsBehindTheOthers() {
        CordClock clock = new CordClock();
        for (char sign : "run:12".toCharArray()) {
            clock.append(sign);
        }
        clock.execute();
        Check.due("in their order", clock.count(0), 12);
        Ask.type(clock, "run:2");
        clock.execute();
        Check.due("from the first place on", clock.count(0), 14);
    }

    private static void codes33To126() {
        CordClock clock = new CordClock();
        for (int code = 33; code <= 126; code++) {
            Check.due("code " + code, clock.append(code), 1);
            Check.due("cleared", clock.clearBuffer(), 1);
        }
    }

    private static void lengths1To60() {
        CordClock clock = new CordClock();
        for (int i = 1; i <= 60; i++) {
            Check.due("length", clock.append(33), i);
            Check.due("the same length", clock.count(11), i);
        }
    }

    private static void codesOutOfRange() {
        CordClock clock = new CordClock();
        Check.dueThrows("code", clock::append, ARGUMENT, 32, 127, 0, -1, 10, 128, 255, 256 + 33, 65536 + 33, -33,
            Ask.LOW, Ask.HIGH, Ask.LOW + 33);
        Check.due("length", clock.count(11), 0);
    }

    private static void fullBuffer() {
        CordClock clock = typed(SIXTY.substring(1));
        Check.due("the 60th", clock.append('0'), 60);
        Check.dueThrows("the 61st", clock::append, STATE, 33, 126, '0');
        Check.due("cleared", clock.clearBuffer(), 60);
        Check.due("room again", clock.append(33), 1);
    }

    private static void clears() {
        CordClock clock = typed("new:5;");
        clock.clearBuffer();
        Check.due("length", clock.count(11), 0);
        Check.due("no error", clock.firstError(), 0);
        Check.dueThrow("nothing to execute", () -> clock.execute(), ARGUMENT);
        Ask.type(clock, "run:3");
        Check.due("nothing of it is left", clock.execute(), 1);
        Check.due("cords", clock.count(1), 0);
    }

    private static void clearedLengths() {
        for (int length : new int[] {0, 1, 59, 60}) {
            CordClock clock = typed(SIXTY.substring(0, length));
            Check.due("length", clock.clearBuffer(), length);
            Check.due("then", clock.clearBuffer(), 0);
        }
    }

    private static void errorAtEachPlace() {
        for (int place = 0; place < 60; place++) {
            String text = SIXTY.substring(0, place) + "~" + SIXTY.substring(place + 1);
            CordClock clock = typed(text);
            Check.due("error at " + place, clock.firstError(), place);
            Check.due("it changes nothing", clock.firstError(), place);
            Check.due("length", clock.count(11), 60);
        }
    }

    private static void lengthIfNoError() {
        for (int length = 0; length <= 60; length++) {
            Check.due("a part of a text", typed(SIXTY.substring(0, length)).firstError(), length);
        }
        String most = "new:60.60.60.60.60.60;when:0,1L;lit:3R;when:3,3R;run:200;new";
        for (int length = 0; length <= 60; length++) {
            Check.due("a part of another text", typed(most.substring(0, length)).firstError(), length);
        }
        Check.due("the error is the last character", typed(SIXTY.substring(0, 59) + "x").firstError(), 59);
    }

    // ---- promise 13

    private static void oneAfterTheOther() {
        CordClock clock = new CordClock();
        Check.due("orders", Ask.execute(clock, "new:3;lit:0L;run:2;new:9;when:0,1R;run:1;lit:1L;run:1"), 8);
        Check.dueText("book", Ask.book(clock), "lit L 1@3, lit R 1@3, out 0@3, lit L 0@0");
        Check.due("step", clock.count(0), 4);
        Check.due("time left", clock.cordOf(1, 4), 7);
    }

    private static void noneOfTheTextsBefore() {
        CordClock clock = Ask.clockOf("new:1.2.3.4.5.6");
        Check.due("no such cords", Ask.execute(clock, "when:3,2R"), 0);
        Check.due("a cord that there is", Ask.execute(clock, "lit:0L"), 1);
        Check.due("its left end", clock.cordOf(0, 5), 1);
        Check.due("one segment behind six", Ask.execute(clock, "new:7"), 1);
        Check.due("segments", clock.cordOf(1, 1), 1);
        Check.due("its time", clock.cordOf(1, 0), 7);
        Check.due("no such cord", Ask.execute(clock, "lit:3R"), 0);
        Check.due("a rule of cords that there are", Ask.execute(clock, "when:1,0L"), 1);
        Check.due("two steps behind two hundred", Ask.execute(clock, "run:200") + Ask.execute(clock, "run:2"), 2);
        Check.due("step", clock.count(0), 202);
    }

    private static void upToTheFifthCord() {
        CordClock clock = Ask.clockOf("new:1;new:2;new:3");
        Check.due("the fourth cord, not the fifth", Ask.execute(clock, "new:4;new:5;run:7"), 1);
        Check.due("cords", clock.count(1), 4);
        Check.due("nothing behind it", clock.count(0), 0);
    }

    private static void upToAnEndThatCannotBeLit() {
        CordClock clock = Ask.clockOf("new:9;new:1");
        Check.due("no such cord", Ask.execute(clock, "lit:0L;lit:2L;run:7"), 1);
        Check.due("a flame is there", Ask.execute(clock, "lit:0R;lit:0R;run:7"), 1);
        Check.due("burned out", Ask.execute(clock, "lit:1L;run:1;lit:1L;run:7"), 2);
        Check.due("burned out, the other end", Ask.execute(clock, "run:1;lit:1R;run:7"), 1);
        Check.due("step", clock.count(0), 2);
        Check.due("lightings", clock.count(6), 3);
    }

    private static void upToARuleThatCannotBe() {
        CordClock clock = Ask.clockOf("new:9;new:9");
        Check.due("no such cord is lit", Ask.execute(clock, "when:0,1L;when:1,2L;run:7"), 1);
        Check.due("no such cord is out", Ask.execute(clock, "when:0,1L;when:2,1L;run:7"), 1);
        Check.due("both are the same", Ask.execute(clock, "when:0,1L;when:1,1L;run:7"), 1);
        Check.due("the eighth rule", Ask.execute(clock, "when:0,1L;when:0,1L;when:0,1L;when:1,0R;when:1,0R;run:7"), 6);
        Check.due("the ninth rule", Ask.execute(clock, "run:1;when:0,1L;run:7"), 1);
        Check.due("rules", clock.count(2), 8);
        Check.due("step", clock.count(0), 8);
    }

    private static void clearsInEachCase() {
        String[] texts = {"run:1", "lit:0L", "run:1;lit:0L;run:1", SIXTY};
        for (String text : texts) {
            CordClock clock = typed(text);
            clock.execute();
            Check.due("length behind " + text, clock.count(11), 0);
            Check.dueThrow("nothing is left of " + text, () -> clock.execute(), ARGUMENT);
        }
        CordClock clock = typed("run:1;");
        Check.dueThrow("not complete", () -> clock.execute(), ARGUMENT);
        Check.due("then it is not cleared", clock.count(11), 6);
        Ask.type(clock, "run:4");
        Check.due("it can be completed", clock.execute(), 2);
        Check.due("step", clock.count(0), 5);
    }

    private static void executeIsUndoneAsOne() {
        Twins.undoable("many orders", TextEdgeTest::busy, clock -> Ask.execute(clock, SIXTY));
        Twins.undoable("orders in part", TextEdgeTest::busy, clock -> Ask.execute(clock, "new:5;run:4;lit:1L;run:9"));
        Twins.undoable("one order", TextEdgeTest::busy, clock -> Ask.execute(clock, "run:200"));
        CordClock clock = typed("run:1;run:2");
        clock.execute();
        clock.undo();
        Check.due("the buffer stays empty", clock.count(11), 0);
        Check.dueThrow("no state is saved", () -> clock.undo(), STATE);
    }

    private static void undoableEvenWithoutAnOrder() {
        Twins.undoable("no order", TextEdgeTest::busy, clock -> Ask.execute(clock, "lit:3L;run:9"));
        CordClock clock = new CordClock();
        Check.due("executed", Ask.execute(clock, "lit:0L"), 0);
        Check.due("saved", clock.count(10), 1);
    }

    private static void noneToAllOrders() {
        for (int good = 0; good <= 5; good++) {
            StringBuilder text = new StringBuilder();
            for (int i = 0; i < 5; i++) {
                text.append(i == 0 ? "" : ";").append(i < good ? "run:1" : "lit:0L");
            }
            CordClock clock = new CordClock();
            Check.due("executed of " + text, Ask.execute(clock, text.toString()), good);
            Check.due("steps", clock.count(0), good);
        }
    }

    private static void notComplete() {
        for (String text : new String[] {"", "r", "run:", "run:1;", "run:1;r", ";", "run:201", "run:1x", "new:1.", "lit:0",
            "when:0,1", "run:1;run:1;run:1;run:1;run:1;run:1;run:1;run:1;run:1;run:1;"}) {
            Twins.refused("execute of " + text, () -> typed(text), clock -> clock.execute(), ARGUMENT);
        }
    }

    // ---- promises 14 to 16

    private static void lastSavedFirst() {
        CordClock clock = new CordClock();
        clock.cord(1, 5);
        clock.light(0, true);
        clock.run(2);
        clock.undo();
        Check.due("without the steps", clock.count(0), 0);
        Check.due("with the flame", clock.count(3), 1);
        clock.undo();
        Check.due("without the flame", clock.count(3), 0);
        Check.due("with the cord", clock.count(1), 1);
        clock.undo();
        Check.due("without the cord", clock.count(1), 0);
        Check.due("all are removed", clock.count(10), 0);
    }

    private static void statesLeft() {
        for (int calls = 1; calls <= 7; calls++) {
            CordClock clock = new CordClock();
            for (int i = 0; i < calls; i++) {
                clock.dropRules();
            }
            for (int left = Math.min(calls, 6) - 1; left >= 0; left--) {
                Check.due("left of " + calls, clock.undo(), left);
                Check.due("the same number", clock.count(10), left);
            }
        }
    }

    private static void noStateIsSaved() {
        CordClock clock = new CordClock();
        Check.dueThrow("of a new clock", () -> clock.undo(), STATE);
        clock.keep(0);
        clock.append('r');
        Check.dueThrow("a snapshot is no saved state", () -> clock.undo(), STATE);
        clock.run(5);
        Check.due("the only one", clock.undo(), 0);
        Twins.refused("undo again", () -> {
            CordClock undone = Ask.clockOf("new:3;run:4");
            undone.undo();
            return undone;
        }, again -> again.undo(), STATE);
    }

    private static void replacesTheOneInTheSlot() {
        for (int slot = 0; slot < 2; slot++) {
            CordClock clock = new CordClock();
            for (int i = 1; i <= 3; i++) {
                clock.run(i);
                clock.keep(slot);
            }
            clock.run(100);
            Check.due("the latest one", clock.goBack(slot), 6);
            int other = 1 - slot;
            Check.dueThrow("the other slot is empty", () -> clock.goBack(other), STATE);
        }
    }

    private static void snapshotOfAnEmptyClock() {
        CordClock clock = new CordClock();
        Check.due("step", clock.keep(0), 0);
        String kept = Ask.state(clock);
        Ask.execute(clock, "new:1;new:2;when:0,1L;lit:0L;run:9");
        clock.goBack(0);
        Check.dueText("empty again", Ask.state(clock), kept);
        Check.due("the first cord", clock.cord(1, 7), 0);
    }

    private static void slotsForKeep() {
        CordClock clock = Ask.clockOf("run:1");
        Check.due("slot 0", clock.keep(0), 1);
        clock.run(1);
        Check.due("slot 1", clock.keep(1), 2);
        Check.due("slot 0", clock.goBack(0), 1);
        Check.due("slot 1", clock.goBack(1), 2);
    }

    private static void stepOfKeep() {
        CordClock clock = new CordClock();
        Check.due("at first", clock.keep(0), 0);
        clock.run(200);
        Check.due("later", clock.keep(0), 200);
        clock.undo();
        Check.due("undone", clock.keep(0), 0);
    }

    private static void noSlotForKeep() {
        for (int slot : new int[] {-1, 2, 3, Ask.LOW, Ask.HIGH}) {
            Twins.refused("keep(" + slot + ")", TextEdgeTest::justKept, clock -> clock.keep(slot), ARGUMENT);
        }
    }

    private static void snapshotStays() {
        CordClock clock = justKept();
        String kept = Ask.state(clock);
        for (int i = 0; i < 4; i++) {
            change(clock);
            clock.goBack(1);
            Check.dueText("the snapshot for time " + i, Ask.state(clock), kept);
            clock.goBack(1);
            Check.dueText("at once again", Ask.state(clock), kept);
        }
        clock.undo();
        change(clock);
        clock.goBack(1);
        Check.dueText("behind an undo", Ask.state(clock), kept);
    }

    private static void goBackIsUndone() {
        Twins.undoable("goBack", () -> {
            CordClock clock = justKept();
            clock.run(5);
            return clock;
        }, clock -> clock.goBack(1));
        CordClock full = justKept();
        for (int i = 0; i < 6; i++) {
            full.run(1);
        }
        full.goBack(1);
        Check.due("six states at most", full.count(10), 6);
        full.undo();
        Check.due("step", full.count(0), 9);
    }

    private static void slotsForGoBack() {
        CordClock clock = new CordClock();
        clock.keep(0);
        clock.keep(1);
        Check.due("slot 0", clock.goBack(0), 0);
        Check.due("slot 1", clock.goBack(1), 0);
    }

    private static void stepOfGoBack() {
        CordClock clock = Ask.clockOf("run:150");
        clock.keep(0);
        clock.undo();
        clock.keep(1);
        Check.due("to a later step", clock.goBack(0), 150);
        Check.due("to the first step", clock.goBack(1), 0);
        Check.due("the number of the step", clock.count(0), 0);
    }

    private static void noSlotForGoBack() {
        for (int slot : new int[] {-1, 2, 3, Ask.LOW, Ask.HIGH}) {
            Twins.refused("goBack(" + slot + ")", TextEdgeTest::justKept, clock -> clock.goBack(slot), ARGUMENT);
        }
    }

    private static void emptySlot() {
        Twins.refused("slot 0", TextEdgeTest::justKept, clock -> clock.goBack(0), STATE);
        Twins.refused("slot 1", CordClock::new, clock -> clock.goBack(1), STATE);
        CordClock clock = justKept();
        clock.goBack(1);
        Check.dueThrow("going back does not fill the other slot", () -> clock.goBack(0), STATE);
    }
}
