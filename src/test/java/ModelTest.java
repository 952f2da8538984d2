import java.util.List;
import java.util.Map;
import java.util.Random;
import java.util.concurrent.Callable;

/** Random runs, the same ones each time, on a clock and on the slow clock beside it. */
public final class ModelTest {
    private static final int RUNS = 400;
    private static final int CALLS = 512;
    private static final int KINDS = 26;
    private static final int[] ODD = {Integer.MIN_VALUE, -2, -1, 0, 61, 201, 1081, Integer.MAX_VALUE};

    private final Random random;
    private final String run;
    private final int longest;
    private final CordClock clock = new CordClock();
    private final SlowClock slow = new SlowClock();
    private boolean agreed = true;

    private ModelTest(int seed) {
        random = new Random(seed);
        run = "run " + seed;
        longest = seed % 3 == 0 ? 60 : seed % 3 == 1 ? 12 : 3;
    }

    public static void main(String[] args) {
        for (int seed = 0; seed < RUNS; seed++) {
            ModelTest test = new ModelTest(seed);
            for (int i = 0; i < CALLS && test.agreed; i++) {
                test.call();
                test.glance();
            }
        }
        plans();
        Check.end("ModelTest");
    }

    private void same(String call, Callable<?> fast, Callable<?> slowly) {
        String got = Check.answer(fast);
        String want = Check.answer(slowly);
        agreed &= got.equals(want);
        Check.dueText(run + ": " + call, got, want);
    }

    /** Mostly a number from 0 on, now and then an odd one. */
    private int number(int bound) {
        return random.nextInt(40) == 0 ? ODD[random.nextInt(ODD.length)] : random.nextInt(bound);
    }

    private int cordNumber() {
        int cords = slow.count(1);
        return random.nextInt(30) == 0 || cords == 0 ? number(6) - 1 : random.nextInt(cords);
    }

    private int time() {
        return random.nextInt(40) == 0 ? number(70) : 1 + random.nextInt(longest);
    }

    private void call() {
        int kind = random.nextInt(KINDS);
        boolean left = random.nextBoolean();
        if (kind < 13) {
            change(kind, cordNumber(), left);
        } else {
            ask(kind, cordNumber(), left);
        }
    }

    private void change(int kind, int cord, boolean left) {
        int a = number(8);
        int b = time();
        int other = cordNumber();
        switch (kind) {
            case 0 -> same("cord", () -> clock.cord(a, b), () -> slow.cord(a, b));
            case 1 -> same("uneven", () -> clock.uneven(cord, a, b), () -> slow.uneven(cord, a, b));
            case 2 -> same("renew", () -> clock.renew(cord), () -> slow.renew(cord));
            case 3, 4, 5 -> same("light", () -> clock.light(cord, left), () -> slow.light(cord, left));
            case 6 -> same("putOut", () -> clock.putOut(cord, left), () -> slow.putOut(cord, left));
            case 7, 8 -> same("rule", () -> clock.rule(other, cord, left), () -> slow.rule(other, cord, left));
            case 9, 10 -> same("run", () -> clock.run(b), () -> slow.run(b));
            case 11 -> rare(a % 2);
            default -> orders();
        }
    }

    private void rare(int slot) {
        switch (random.nextInt(8)) {
            case 0 -> same("dropRules", clock::dropRules, slow::dropRules);
            case 1, 2 -> same("keep", () -> clock.keep(slot), () -> slow.keep(slot));
            case 3 -> same("goBack", () -> clock.goBack(slot), () -> slow.goBack(slot));
            case 4 -> same("run", () -> clock.run(200), () -> slow.run(200));
            default -> same("undo", clock::undo, slow::undo);
        }
    }

    private void orders() {
        String text = random.nextInt(4) == 0 ? noise() : orderText();
        for (int i = 0; i < text.length(); i++) {
            int code = text.charAt(i);
            same("append", () -> clock.append(code), () -> slow.append(code));
        }
        same("firstError of " + text, clock::firstError, slow::firstError);
        same("execute of " + text, clock::execute, slow::execute);
        if (random.nextInt(3) > 0) {
            same("clearBuffer", clock::clearBuffer, slow::clearBuffer);
        }
    }

    private String orderText() {
        StringBuilder text = new StringBuilder();
        for (int i = random.nextInt(4); i >= 0; i--) {
            text.append(order()).append(i > 0 ? ";" : "");
        }
        if (random.nextInt(5) == 0) {
            text.setLength(random.nextInt(text.length()));
        }
        if (text.length() > 0 && random.nextInt(5) == 0) {
            text.setCharAt(random.nextInt(text.length()), sign());
        }
        return text.toString();
    }

    private String order() {
        String end = random.nextBoolean() ? "L" : "R";
        switch (random.nextInt(4)) {
            case 0:
                StringBuilder times = new StringBuilder("new:").append(1 + random.nextInt(62));
                for (int i = random.nextInt(7); i > 0; i--) {
                    times.append('.').append(time());
                }
                return times.toString();
            case 1: return "lit:" + random.nextInt(5) + end;
            case 2: return "when:" + random.nextInt(4) + "," + random.nextInt(4) + end;
            default: return "run:" + random.nextInt(random.nextBoolean() ? 20 : 210);
        }
    }

    private char sign() {
        return "newlithwru:;.,LR0123456789 ~!".charAt(random.nextInt(29));
    }

    private String noise() {
        StringBuilder text = new StringBuilder();
        for (int i = random.nextInt(6); i >= 0; i--) {
            text.append(sign());
        }
        return text.toString();
    }

    private void ask(int kind, int cord, boolean left) {
        int a = number(10);
        int b = number(10);
        int set = random.nextInt(10) == 0 ? number(20) - 1 : random.nextInt(1 << slow.count(1));
        int told = random.nextBoolean() ? number(1100) : 1 + random.nextInt(longest * 6);
        int rank = number(30) - 1;
        switch (kind) {
            case 13 -> same("cordOf", () -> clock.cordOf(cord, a), () -> slow.cordOf(cord, a));
            case 14 -> same("segment", () -> clock.segment(cord, a), () -> slow.segment(cord, a));
            case 15 -> same("front", () -> clock.front(cord, left), () -> slow.front(cord, left));
            case 16 -> same("ruleOf", () -> clock.ruleOf(a, b), () -> slow.ruleOf(a, b));
            case 17 -> same("count", () -> clock.count(a + b), () -> slow.count(a + b));
            case 18 -> same("entry", () -> clock.entry(a, b), () -> slow.entry(a, b));
            case 19, 20, 21 -> same("outIn", () -> clock.outIn(cord), () -> slow.outIn(cord));
            case 22 -> same("lasts", () -> clock.lasts(cord, a, b), () -> slow.lasts(cord, a, b));
            case 23 -> same("lasts", () -> clock.lasts(cord, 1 + a % 2, b % 2), () -> slow.lasts(cord, 1 + a % 2, b % 2));
            case 24 -> same("tellable", () -> clock.tellable(set, rank), () -> slow.tellable(set, rank));
            default -> same("fewestFlames", () -> clock.fewestFlames(set, told), () -> slow.fewestFlames(set, told));
        }
    }

    /** What a few queries tell after each call. */
    private void glance() {
        int what = random.nextInt(Ask.COUNTS);
        int cord = random.nextInt(4);
        int number = random.nextInt(Ask.NUMBERS_OF_A_CORD);
        int ago = random.nextInt(9);
        int index = random.nextInt(10);
        same("count " + what, () -> clock.count(what), () -> slow.count(what));
        same("cordOf " + number, () -> clock.cordOf(cord, number), () -> slow.cordOf(cord, number));
        same("front", () -> clock.front(cord, number > 3), () -> slow.front(cord, number > 3));
        same("ruleOf", () -> clock.ruleOf(cord, 3), () -> slow.ruleOf(cord, 3));
        same("entry", () -> clock.entry(ago, index), () -> slow.entry(ago, index));
        same("burned", clock::burned, slow::burned);
    }

    /** All told times of sets of cords, short and long ones. */
    private static void plans() {
        Random random = new Random(7);
        for (int i = 0; i < 300; i++) {
            int[] times = new int[3];
            CordClock clock = new CordClock();
            for (int cord = 0; cord < 3; cord++) {
                int segments = 1 + random.nextInt(6);
                int time = 1 + random.nextInt(i % 2 == 0 ? 60 : 4);
                times[cord] = segments * time;
                clock.cord(segments, time);
            }
            Map<Integer, Integer> want = SlowClock.toldTimes(List.of(times[0], times[1], times[2]));
            for (int time = 1; time <= 1080; time++) {
                Check.due("fewestFlames " + time, clock.fewestFlames(7, time), want.getOrDefault(time, -1));
            }
            int rank = 0;
            for (int time : want.keySet()) {
                Check.due("tellable " + rank, clock.tellable(7, rank), time);
                rank++;
            }
            Check.due("tellable", clock.tellable(7, CordClock.NONE), want.size());
        }
    }
}
