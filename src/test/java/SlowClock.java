import java.util.ArrayDeque;
import java.util.ArrayList;
import java.util.HashMap;
import java.util.List;
import java.util.Map;
import java.util.TreeMap;
import java.util.regex.Matcher;
import java.util.regex.Pattern;

/**
 * A second clock for the tests, written in another way than CordClock: a cord is a text with a sign for
 * each step of its time, states are copied whole, orders are read by regular expressions, plans are
 * followed step by step.
 */
final class SlowClock {
    private static final String TIME = "(?:[1-9]|[1-5][0-9]|60)";
    private static final String STEPS = "(?:[1-9]|[1-9][0-9]|1[0-9][0-9]|200)";
    private static final String ORDER = "(?:new:" + TIME + "(?:\\." + TIME + "){0,5}|lit:[0-3][LR]"
        + "|when:[0-3],[0-3][LR]|run:" + STEPS + ")";
    private static final Pattern ORDERS = Pattern.compile(ORDER + "(?:;" + ORDER + ")*");

    /** A cord's steps from left to right: its segment's digit while unburned, 'l' or 'r' once burned. */
    private static final class Rope {
        final List<Integer> times = new ArrayList<>();
        StringBuilder steps = new StringBuilder();
        boolean[] flame = {false, false};
        int last = -1;

        Rope copy() {
            Rope other = new Rope();
            other.times.addAll(times);
            other.steps = new StringBuilder(steps);
            other.flame = flame.clone();
            other.last = last;
            return other;
        }

        void weave() {
            steps = new StringBuilder();
            for (int i = 0; i < times.size(); i++) {
                steps.append(String.valueOf((char) ('0' + i)).repeat(times.get(i)));
            }
            flame = new boolean[2];
        }

        int signs(String which) {
            return (int) steps.chars().filter(c -> which.indexOf(c) >= 0).count();
        }

        int left() {
            return signs("012345");
        }

        /** The place of the step that burns next on a side. */
        int place(boolean fromLeft) {
            int place = -1;
            for (int i = 0; i < steps.length(); i++) {
                if (Character.isDigit(steps.charAt(i)) && (place < 0 || !fromLeft)) {
                    place = i;
                }
            }
            return place;
        }

        void burn(boolean fromLeft) {
            if (flame[fromLeft ? 0 : 1] && left() > 0) {
                steps.setCharAt(place(fromLeft), fromLeft ? 'l' : 'r');
            }
        }
    }

    private static final class World {
        List<Rope> ropes = new ArrayList<>();
        List<int[]> rules = new ArrayList<>();
        List<String> book = new ArrayList<>();
        List<Boolean> smoke = new ArrayList<>();
        int signals;
        int lightings;

        World copy() {
            World other = new World();
            ropes.forEach(r -> other.ropes.add(r.copy()));
            rules.forEach(r -> other.rules.add(r.clone()));
            other.book.addAll(book);
            other.smoke.addAll(smoke);
            other.signals = signals;
            other.lightings = lightings;
            return other;
        }

        int flames() {
            int flames = 0;
            for (Rope rope : ropes) {
                flames += (rope.flame[0] ? 1 : 0) + (rope.flame[1] ? 1 : 0);
            }
            return flames;
        }

        boolean canLight(int cord, boolean left) {
            return ropes.get(cord).left() > 0 && !ropes.get(cord).flame[left ? 0 : 1];
        }

        void light(int cord, boolean left) {
            ropes.get(cord).flame[left ? 0 : 1] = true;
            lightings++;
            book.add((left ? "lit L " : "lit R ") + cord + "@" + smoke.size());
        }

        int pass() {
            List<Integer> out = new ArrayList<>();
            smoke.add(flames() > 0);
            for (int i = 0; i < ropes.size(); i++) {
                Rope rope = ropes.get(i);
                int before = rope.left();
                rope.burn(true);
                rope.burn(false);
                if (before > 0 && rope.left() == 0) {
                    out.add(i);
                    rope.flame = new boolean[2];
                    rope.last = smoke.size();
                }
            }
            for (int cord : out) {
                signals++;
                book.add("out " + cord + "@" + smoke.size());
                for (int[] rule : rules) {
                    if (rule[0] == cord && canLight(rule[1], rule[2] == 1)) {
                        light(rule[1], rule[2] == 1);
                        rule[3]++;
                    }
                }
            }
            return out.size();
        }

        int longestGap() {
            int longest = 0;
            int gap = 0;
            for (boolean smoky : smoke) {
                gap = smoky ? 0 : gap + 1;
                longest = Math.max(longest, gap);
            }
            return longest;
        }
    }

    private World world = new World();
    private String buffer = "";
    private final ArrayDeque<World> saved = new ArrayDeque<>();
    private final World[] slots = new World[2];

    private static void refuseIf(boolean refused, RuntimeException why) {
        if (refused) {
            throw why;
        }
    }

    private static void argument(boolean wrong) {
        refuseIf(wrong, new IllegalArgumentException());
    }

    private static void state(boolean wrong) {
        refuseIf(wrong, new IllegalStateException());
    }

    private Rope rope(int cord) {
        refuseIf(cord < 0 || cord >= world.ropes.size(), new IndexOutOfBoundsException());
        return world.ropes.get(cord);
    }

    private void save() {
        saved.addLast(world.copy());
        if (saved.size() > 6) {
            saved.removeFirst();
        }
    }

    private int addRope(List<Integer> times) {
        state(world.ropes.size() == 4);
        Rope rope = new Rope();
        rope.times.addAll(times);
        rope.weave();
        world.ropes.add(rope);
        return world.ropes.size() - 1;
    }

    int cord(int segments, int time) {
        argument(segments < 1 || segments > 6 || time < 1 || time > 60);
        state(world.ropes.size() == 4);
        save();
        List<Integer> times = new ArrayList<>();
        for (int i = 0; i < segments; i++) {
            times.add(time);
        }
        return addRope(times);
    }

    int uneven(int cord, int segment, int time) {
        Rope rope = rope(cord);
        refuseIf(segment < 0 || segment >= rope.times.size(), new IndexOutOfBoundsException());
        argument(time < 1 || time > 60);
        state(rope.signs("lr") > 0 || rope.flame[0] || rope.flame[1]);
        save();
        int previous = rope.times.set(segment, time);
        rope.weave();
        return previous;
    }

    int renew(int cord) {
        Rope rope = rope(cord);
        save();
        int burned = rope.signs("lr");
        rope.weave();
        return burned;
    }

    private void lightEnd(int cord, boolean left) {
        rope(cord);
        state(!world.canLight(cord, left));
        world.light(cord, left);
    }

    int light(int cord, boolean left) {
        rope(cord);
        state(!world.canLight(cord, left));
        save();
        lightEnd(cord, left);
        return world.flames();
    }

    int putOut(int cord, boolean left) {
        Rope rope = rope(cord);
        state(!rope.flame[left ? 0 : 1]);
        save();
        rope.flame[left ? 0 : 1] = false;
        return world.flames();
    }

    private void mayAddRule(int out, int cord) {
        rope(out);
        rope(cord);
        argument(out == cord);
        state(world.rules.size() == 8);
    }

    int rule(int out, int cord, boolean left) {
        mayAddRule(out, cord);
        save();
        world.rules.add(new int[] {out, cord, left ? 1 : 0, 0});
        return world.rules.size() - 1;
    }

    int dropRules() {
        save();
        int dropped = world.rules.size();
        world.rules.clear();
        return dropped;
    }

    private int pass(int steps) {
        int signals = 0;
        for (int i = 0; i < steps; i++) {
            signals += world.pass();
        }
        return signals;
    }

    int run(int steps) {
        argument(steps < 1 || steps > 200);
        save();
        return pass(steps);
    }

    int append(int code) {
        argument(code < 33 || code > 126);
        state(buffer.length() == 60);
        buffer += (char) code;
        return buffer.length();
    }

    int clearBuffer() {
        int length = buffer.length();
        buffer = "";
        return length;
    }

    int firstError() {
        int good = 0;
        while (good < buffer.length()) {
            Matcher matcher = ORDERS.matcher(buffer.substring(0, good + 1));
            if (!matcher.matches() && !matcher.hitEnd()) {
                return good;
            }
            good++;
        }
        return good;
    }

    int execute() {
        argument(!ORDERS.matcher(buffer).matches());
        save();
        int done = 0;
        try {
            for (String order : buffer.split(";")) {
                carryOut(order.substring(0, order.indexOf(':')), order.substring(order.indexOf(':') + 1));
                done++;
            }
        } catch (IllegalArgumentException | IllegalStateException | IndexOutOfBoundsException e) {
            // The orders behind the one that throws are left.
        }
        buffer = "";
        return done;
    }

    private void carryOut(String word, String rest) {
        if (word.equals("new")) {
            List<Integer> times = new ArrayList<>();
            for (String time : rest.split("\\.")) {
                times.add(Integer.parseInt(time));
            }
            addRope(times);
        } else if (word.equals("lit")) {
            lightEnd(rest.charAt(0) - '0', rest.endsWith("L"));
        } else if (word.equals("when")) {
            mayAddRule(rest.charAt(0) - '0', rest.charAt(2) - '0');
            world.rules.add(new int[] {rest.charAt(0) - '0', rest.charAt(2) - '0', rest.endsWith("L") ? 1 : 0, 0});
        } else {
            pass(Integer.parseInt(rest));
        }
    }

    int undo() {
        state(saved.isEmpty());
        world = saved.removeLast();
        return saved.size();
    }

    int keep(int slot) {
        argument(slot < 0 || slot > 1);
        slots[slot] = world.copy();
        return world.smoke.size();
    }

    int goBack(int slot) {
        argument(slot < 0 || slot > 1);
        state(slots[slot] == null);
        save();
        world = slots[slot].copy();
        return world.smoke.size();
    }

    int cordOf(int cord, int what) {
        Rope rope = rope(cord);
        argument(what < 0 || what > 7);
        int[] numbers = {rope.steps.length(), rope.times.size(), rope.signs("l"), rope.signs("r"), rope.left(),
            (rope.flame[0] ? 1 : 0) + (rope.flame[1] ? 2 : 0), rope.left() == 0 ? 1 : 0, rope.last};
        return numbers[what];
    }

    int segment(int cord, int segment) {
        Rope rope = rope(cord);
        refuseIf(segment < 0 || segment >= rope.times.size(), new IndexOutOfBoundsException());
        return rope.times.get(segment);
    }

    int front(int cord, boolean left) {
        Rope rope = rope(cord);
        return rope.left() == 0 ? -1 : rope.steps.charAt(rope.place(left)) - '0';
    }

    int ruleOf(int rule, int what) {
        refuseIf(rule < 0 || rule >= world.rules.size(), new IndexOutOfBoundsException());
        argument(what < 0 || what > 3);
        return world.rules.get(rule)[what];
    }

    int count(int what) {
        argument(what < 0 || what > 11);
        int out = 0;
        for (int i = 0; i < world.ropes.size(); i++) {
            out += world.ropes.get(i).left() == 0 ? 1 << i : 0;
        }
        int smoky = 0;
        for (boolean smoke : world.smoke) {
            smoky += smoke ? 1 : 0;
        }
        int[] numbers = {world.smoke.size(), world.ropes.size(), world.rules.size(), world.flames(), out,
            world.signals, world.lightings, smoky, world.longestGap(), Math.min(8, world.book.size()), saved.size(),
            buffer.length()};
        return numbers[what];
    }

    int entry(int ago, int index) {
        argument(ago < 0 || index < 0);
        if (ago >= Math.min(8, world.book.size())) {
            return -1;
        }
        String text = world.book.get(world.book.size() - 1 - ago);
        return index < text.length() ? text.charAt(index) : -1;
    }

    int outIn(int cord) {
        rope(cord);
        World later = world.copy();
        for (int steps = 0; steps <= 2000; steps++) {
            if (later.ropes.get(cord).left() == 0) {
                return steps;
            }
            if (later.flames() == 0) {
                return -1;
            }
            later.pass();
        }
        return -1;
    }

    int lasts(int cord, int flames, int way) {
        Rope rope = rope(cord);
        argument(flames < 1 || flames > 2 || way < 0 || way > 1);
        return rope.left() / flames + rope.left() % flames;
    }

    private List<Integer> timesOf(int cords) {
        argument(cords < 0 || cords >= 1 << world.ropes.size() || Integer.bitCount(cords) > 3);
        List<Integer> times = new ArrayList<>();
        for (int i = 0; i < 4; i++) {
            if ((cords & 1 << i) != 0) {
                times.add(world.ropes.get(i).steps.length());
            }
        }
        return times;
    }

    /** How cords stand: the time that is left and the flames of each, one after the other. */
    private static List<List<Integer>> choices(List<Integer> stands, int from) {
        List<List<Integer>> all = new ArrayList<>();
        if (from >= stands.size()) {
            all.add(stands);
            return all;
        }
        int most = stands.get(from) > 0 ? 2 : 0;
        for (int flames = stands.get(from + 1); flames <= most; flames++) {
            List<Integer> chosen = new ArrayList<>(stands);
            chosen.set(from + 1, flames);
            all.addAll(choices(chosen, from + 2));
        }
        return all;
    }

    private static int flamesOf(List<Integer> stands) {
        int flames = 0;
        for (int i = 1; i < stands.size(); i += 2) {
            flames += stands.get(i);
        }
        return flames;
    }

    private static void choose(List<Integer> stands, int lightings, Map<List<Integer>, Integer> into) {
        for (List<Integer> chosen : choices(stands, 0)) {
            if (flamesOf(chosen) > 0) {
                into.merge(chosen, lightings + flamesOf(chosen) - flamesOf(stands), Math::min);
            }
        }
    }

    /** For each time that can be told, the fewest lightings. */
    static TreeMap<Integer, Integer> toldTimes(List<Integer> times) {
        TreeMap<Integer, Integer> told = new TreeMap<>();
        Map<List<Integer>, Integer> standing = new HashMap<>();
        List<Integer> start = new ArrayList<>();
        for (int time : times) {
            start.add(time);
            start.add(0);
        }
        choose(start, 0, standing);
        for (int step = 1; !standing.isEmpty(); step++) {
            Map<List<Integer>, Integer> next = new HashMap<>();
            for (Map.Entry<List<Integer>, Integer> one : standing.entrySet()) {
                List<Integer> stands = new ArrayList<>(one.getKey());
                boolean signal = false;
                for (int i = 0; i < stands.size(); i += 2) {
                    int left = Math.max(0, stands.get(i) - stands.get(i + 1));
                    signal |= left == 0 && stands.get(i) > 0;
                    stands.set(i, left);
                    stands.set(i + 1, left == 0 ? 0 : stands.get(i + 1));
                }
                if (signal) {
                    told.merge(step, one.getValue(), Math::min);
                    choose(stands, one.getValue(), next);
                } else {
                    next.merge(stands, one.getValue(), Math::min);
                }
            }
            standing = next;
        }
        return told;
    }

    int tellable(int cords, int rank) {
        List<Integer> times = timesOf(cords);
        argument(rank < -1);
        List<Integer> told = new ArrayList<>(toldTimes(times).keySet());
        return rank == -1 ? told.size() : rank < told.size() ? told.get(rank) : -1;
    }

    int fewestFlames(int cords, int time) {
        List<Integer> times = timesOf(cords);
        argument(time < 1 || time > 1080);
        return toldTimes(times).getOrDefault(time, -1);
    }

    float burned() {
        int burned = 0;
        int time = 0;
        for (Rope rope : world.ropes) {
            burned += rope.signs("lr");
            time += rope.steps.length();
        }
        return time == 0 ? 0.0f : (float) burned / (float) time;
    }
}
