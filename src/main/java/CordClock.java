/** A clock of burning cords; ../shared/DOC.md says what each call promises. */
public final class CordClock {
    public static final int NONE = -1;

    private static final int MAX_CORDS = 4;
    private static final int MAX_SEGMENTS = 6;
    private static final int MAX_SEGMENT_TIME = 60;
    private static final int MAX_RULES = 8;
    private static final int MAX_STEPS = 200;
    private static final int MAX_FORESIGHT = 2000;
    private static final int BOOK_SIZE = 8;
    private static final int MAX_PLAN_CORDS = 3;
    private static final int MAX_PLAN_TIME = 1080;
    private static final int ENDS = 2;
    private static final int TEXT_SIZE = 60;
    private static final int MAX_SAVED = 6;
    private static final int SLOTS = 2;

    private static final int LIT_LEFT = 0;
    private static final int LIT_RIGHT = 1;
    private static final int BURNED_OUT = 2;

    private static final int NEW = 0;
    private static final int LIT = 1;
    private static final int WHEN = 2;
    private static final int RUN = 3;

    private final State now = new State();
    private final State foreseen = new State();
    private final State[] saved = new State[MAX_SAVED];
    private int oldestSaved;
    private int savedStates;
    private final State[] snapshots = new State[SLOTS];
    private final boolean[] taken = new boolean[SLOTS];
    private final OrderText text = new OrderText();
    private final Plans plans = new Plans();

    public CordClock() {
        for (int i = 0; i < MAX_SAVED; i++) {
            saved[i] = new State();
        }
        for (int i = 0; i < SLOTS; i++) {
            snapshots[i] = new State();
        }
    }

    // ---- cords

    public int cord(int segments, int time) throws IllegalArgumentException, IllegalStateException {
        if (segments < 1 || segments > MAX_SEGMENTS || !isSegmentTime(time)) {
            throw new IllegalArgumentException("segments or time out of range");
        }
        if (!now.hasRoomForCord()) {
            throw new IllegalStateException("no room for a cord");
        }
        save();
        Cord added = now.addCord();
        for (int i = 0; i < segments; i++) {
            added.addSegment(time);
        }
        return now.cordCount - 1;
    }

    public int uneven(int cord, int segment, int time)
            throws IndexOutOfBoundsException, IllegalArgumentException, IllegalStateException {
        requireSegment(cord, segment);
        if (!isSegmentTime(time)) {
            throw new IllegalArgumentException("time out of range");
        }
        Cord changed = now.cords[cord];
        if (changed.burnedTime() > 0 || changed.flameCount() > 0) {
            throw new IllegalStateException("the cord is not new");
        }
        save();
        int previous = changed.times[segment];
        changed.changeTime(segment, time);
        return previous;
    }

    public int renew(int cord) throws IndexOutOfBoundsException {
        requireCord(cord);
        save();
        int wasBurned = now.cords[cord].burnedTime();
        now.cords[cord].makeNew();
        return wasBurned;
    }

    public int light(int cord, boolean left) throws IndexOutOfBoundsException, IllegalStateException {
        requireCord(cord);
        if (!now.cords[cord].canBeLit(left)) {
            throw new IllegalStateException("the end cannot be lit");
        }
        save();
        now.lightEnd(cord, left);
        return now.flameCount();
    }

    public int putOut(int cord, boolean left) throws IndexOutOfBoundsException, IllegalStateException {
        requireCord(cord);
        if (!now.cords[cord].hasFlame(left)) {
            throw new IllegalStateException("no such flame");
        }
        save();
        now.cords[cord].setFlame(left, false);
        return now.flameCount();
    }

    public int rule(int out, int cord, boolean left)
            throws IndexOutOfBoundsException, IllegalArgumentException, IllegalStateException {
        requireCord(out);
        requireCord(cord);
        if (out == cord) {
            throw new IllegalArgumentException("both cords are the same");
        }
        if (!now.hasRoomForRule()) {
            throw new IllegalStateException("no room for a rule");
        }
        save();
        now.addRule(out, cord, left);
        return now.ruleCount - 1;
    }

    public int dropRules() {
        save();
        int dropped = now.ruleCount;
        now.ruleCount = 0;
        return dropped;
    }

    public int run(int steps) throws IllegalArgumentException {
        if (steps < 1 || steps > MAX_STEPS) {
            throw new IllegalArgumentException("steps out of range");
        }
        save();
        return now.passSteps(steps);
    }

    // ---- order text

    public int append(int code) throws IllegalArgumentException, IllegalStateException {
        if (code < 33 || code > 126) {
            throw new IllegalArgumentException("no such character");
        }
        if (text.length >= TEXT_SIZE) {
            throw new IllegalStateException("the buffer is full");
        }
        text.addSign((char) code);
        return text.length;
    }

    public int clearBuffer() {
        int cleared = text.length;
        text.length = 0;
        return cleared;
    }

    public int firstError() {
        text.readAll();
        return text.at;
    }

    public int execute() throws IllegalArgumentException {
        if (!text.readAll()) {
            throw new IllegalArgumentException("not a complete order text");
        }
        save();
        int done = 0;
        text.at = 0;
        while (done < TEXT_SIZE && text.readNextOrder() && carryOut()) {
            done++;
        }
        text.length = 0;
        return done;
    }

    // ---- undo and snapshots

    public int undo() throws IllegalStateException {
        if (savedStates == 0) {
            throw new IllegalStateException("no state is saved");
        }
        savedStates--;
        now.copyFrom(saved[(oldestSaved + savedStates) % MAX_SAVED]);
        return savedStates;
    }

    public int keep(int slot) throws IllegalArgumentException {
        requireSlot(slot);
        snapshots[slot].copyFrom(now);
        taken[slot] = true;
        return now.step;
    }

    public int goBack(int slot) throws IllegalArgumentException, IllegalStateException {
        requireSlot(slot);
        if (!taken[slot]) {
            throw new IllegalStateException("the slot is empty");
        }
        save();
        now.copyFrom(snapshots[slot]);
        return now.step;
    }

    // ---- queries; nothing changes

    public int cordOf(int cord, int what) throws IndexOutOfBoundsException, IllegalArgumentException {
        requireCord(cord);
        Cord asked = now.cords[cord];
        switch (what) {
            case 0: return asked.time;
            case 1: return asked.segments;
            case 2: return asked.leftBurned;
            case 3: return asked.rightBurned;
            case 4: return asked.timeLeft();
            case 5: return (asked.leftFlame ? 1 : 0) + (asked.rightFlame ? 2 : 0);
            case 6: return asked.isOut() ? 1 : 0;
            case 7: return asked.lastOut;
            default: throw new IllegalArgumentException("no such number of a cord");
        }
    }

    public int segment(int cord, int segment) throws IndexOutOfBoundsException {
        requireSegment(cord, segment);
        return now.cords[cord].times[segment];
    }

    public int front(int cord, boolean left) throws IndexOutOfBoundsException {
        requireCord(cord);
        return now.cords[cord].frontSegment(left);
    }

    public int ruleOf(int rule, int what) throws IndexOutOfBoundsException, IllegalArgumentException {
        if (rule < 0 || rule >= now.ruleCount) {
            throw new IndexOutOfBoundsException("no such rule");
        }
        Rule asked = now.rules[rule];
        switch (what) {
            case 0: return asked.out;
            case 1: return asked.lit;
            case 2: return asked.left ? 1 : 0;
            case 3: return asked.timesLit;
            default: throw new IllegalArgumentException("no such number of a rule");
        }
    }

    public int count(int what) throws IllegalArgumentException {
        switch (what) {
            case 0: return now.step;
            case 1: return now.cordCount;
            case 2: return now.ruleCount;
            case 3: return now.flameCount();
            case 4: return now.cordsOut();
            case 5: return now.signals;
            case 6: return now.lightings;
            case 7: return now.smokySteps;
            case 8: return now.longestGap;
            case 9: return now.book.known;
            case 10: return savedStates;
            case 11: return text.length;
            default: throw new IllegalArgumentException("no such number");
        }
    }

    public int entry(int ago, int index) throws IllegalArgumentException {
        if (ago < 0 || index < 0) {
            throw new IllegalArgumentException("ago or index is negative");
        }
        if (ago >= now.book.known) {
            return NONE;
        }
        StringBuilder told = new StringBuilder();
        now.book.tell(ago, told);
        if (index >= told.length()) {
            return NONE;
        }
        return told.charAt(index);
    }

    // ---- what would be; nothing changes

    public int outIn(int cord) throws IndexOutOfBoundsException {
        requireCord(cord);
        foreseen.copyFrom(now);
        for (int steps = 0; steps <= MAX_FORESIGHT; steps++) {
            if (foreseen.cords[cord].isOut()) {
                return steps;
            }
            if (foreseen.flameCount() == 0) {
                return NONE;
            }
            foreseen.passStep();
        }
        return NONE;
    }

    public int lasts(int cord, int flames, int way)
            throws IndexOutOfBoundsException, IllegalArgumentException {
        requireCord(cord);
        if (flames < 1 || flames > ENDS || way < 0 || way > 1) {
            throw new IllegalArgumentException("no such number of flames, or no such way");
        }
        int left = now.cords[cord].timeLeft();
        return way == 0 ? stepsByCounting(left, flames) : stepsByDividing(left, flames);
    }

    public int tellable(int cords, int rank) throws IllegalArgumentException {
        if (!isPlanSet(cords) || rank < NONE) {
            throw new IllegalArgumentException("no such set of cords, or no such rank");
        }
        makePlans(cords);
        return rank == NONE ? plans.toldTimes() : plans.toldTime(rank);
    }

    public int fewestFlames(int cords, int time) throws IllegalArgumentException {
        if (!isPlanSet(cords) || time < 1 || time > MAX_PLAN_TIME) {
            throw new IllegalArgumentException("no such set of cords, or time out of range");
        }
        makePlans(cords);
        return plans.fewest[time];
    }

    public float burned() {
        int burnedTime = 0;
        int time = 0;
        for (int i = 0; i < now.cordCount; i++) {
            burnedTime += now.cords[i].burnedTime();
            time += now.cords[i].time;
        }
        return time > 0 ? (float) burnedTime / (float) time : 0.0f;
    }

    // ---- what the calls share

    private void requireCord(int cord) {
        if (!now.hasCord(cord)) {
            throw new IndexOutOfBoundsException("no such cord");
        }
    }

    private void requireSegment(int cord, int segment) {
        requireCord(cord);
        if (segment < 0 || segment >= now.cords[cord].segments) {
            throw new IndexOutOfBoundsException("no such segment");
        }
    }

    private static void requireSlot(int slot) {
        if (slot < 0 || slot >= SLOTS) {
            throw new IllegalArgumentException("no such slot");
        }
    }

    private static boolean isSegmentTime(int time) {
        return time >= 1 && time <= MAX_SEGMENT_TIME;
    }

    private void save() {
        if (savedStates == MAX_SAVED) {
            oldestSaved = (oldestSaved + 1) % MAX_SAVED;
            savedStates--;
        }
        saved[(oldestSaved + savedStates) % MAX_SAVED].copyFrom(now);
        savedStates++;
    }

    /** Carries out the order that was read last; answers false if its method would throw. */
    private boolean carryOut() {
        switch (text.word) {
            case NEW: return carryOutNew();
            case LIT: return carryOutLit();
            case WHEN: return carryOutWhen();
            default:
                now.passSteps(text.steps);
                return true;
        }
    }

    private boolean carryOutNew() {
        if (!now.hasRoomForCord()) {
            return false;
        }
        Cord added = now.addCord();
        for (int i = 0; i < text.timeCount; i++) {
            added.addSegment(text.times[i]);
        }
        return true;
    }

    private boolean carryOutLit() {
        if (!now.hasCord(text.cord) || !now.cords[text.cord].canBeLit(text.left)) {
            return false;
        }
        now.lightEnd(text.cord, text.left);
        return true;
    }

    private boolean carryOutWhen() {
        if (!now.hasCord(text.out) || !now.hasCord(text.cord)) {
            return false;
        }
        if (text.out == text.cord || !now.hasRoomForRule()) {
            return false;
        }
        now.addRule(text.out, text.cord, text.left);
        return true;
    }

    private static int stepsByCounting(int time, int flames) {
        int steps = 0;
        int left = time;
        while (left > 0 && steps < MAX_FORESIGHT) {
            left -= flames;
            steps++;
        }
        return steps;
    }

    private static int stepsByDividing(int time, int flames) {
        return flames > 0 ? (time + flames - 1) / flames : 0;
    }

    private boolean isPlanSet(int cords) {
        return cords >= 0 && cords < 1 << now.cordCount && Integer.bitCount(cords) <= MAX_PLAN_CORDS;
    }

    private void makePlans(int cords) {
        plans.clear();
        for (int i = 0; i < now.cordCount; i++) {
            if ((cords >> i & 1) != 0) {
                plans.addCord(now.cords[i].time);
            }
        }
        plans.tryFromBeginning();
    }

    private static final class Cord {
        private final int[] times = new int[MAX_SEGMENTS];
        private int segments;
        private int time;
        private int leftBurned;
        private int rightBurned;
        private boolean leftFlame;
        private boolean rightFlame;
        private int lastOut = NONE;

        void copyFrom(Cord other) {
            for (int i = 0; i < MAX_SEGMENTS; i++) {
                times[i] = other.times[i];
            }
            segments = other.segments;
            time = other.time;
            leftBurned = other.leftBurned;
            rightBurned = other.rightBurned;
            leftFlame = other.leftFlame;
            rightFlame = other.rightFlame;
            lastOut = other.lastOut;
        }

        // The objects of cords are used again, so a new cord must not rest on what was in its object.
        void clear() {
            segments = 0;
            time = 0;
            lastOut = NONE;
            makeNew();
        }

        void makeNew() {
            leftBurned = 0;
            rightBurned = 0;
            leftFlame = false;
            rightFlame = false;
        }

        void addSegment(int segmentTime) {
            if (segments < MAX_SEGMENTS) {
                times[segments] = segmentTime;
                segments++;
                time += segmentTime;
            }
        }

        void changeTime(int segment, int segmentTime) {
            time += segmentTime - times[segment];
            times[segment] = segmentTime;
        }

        int burnedTime() {
            return leftBurned + rightBurned;
        }

        int timeLeft() {
            return time - leftBurned - rightBurned;
        }

        boolean isOut() {
            return leftBurned + rightBurned == time;
        }

        int flameCount() {
            return (leftFlame ? 1 : 0) + (rightFlame ? 1 : 0);
        }

        boolean hasFlame(boolean left) {
            return left ? leftFlame : rightFlame;
        }

        void setFlame(boolean left, boolean burning) {
            if (left) {
                leftFlame = burning;
            } else {
                rightFlame = burning;
            }
        }

        boolean canBeLit(boolean left) {
            return !isOut() && !hasFlame(left);
        }

        /** Burns for one step; answers whether the cord is burned out by it. */
        boolean burnsOut() {
            if (flameCount() == 0) {
                return false;
            }
            if (leftFlame) {
                leftBurned++;
            }
            if (rightFlame && !isOut()) {
                rightBurned++;
            }
            if (!isOut()) {
                return false;
            }
            leftFlame = false;
            rightFlame = false;
            return true;
        }

        int frontSegment(boolean left) {
            if (isOut()) {
                return NONE;
            }
            int ahead = left ? leftBurned : rightBurned;
            for (int i = 0; i < segments; i++) {
                int segment = left ? i : segments - 1 - i;
                if (ahead < times[segment]) {
                    return segment;
                }
                ahead -= times[segment];
            }
            return NONE;
        }
    }

    private static final class Rule {
        private int out;
        private int lit;
        private boolean left;
        private int timesLit;

        void copyFrom(Rule other) {
            out = other.out;
            lit = other.lit;
            left = other.left;
            timesLit = other.timesLit;
        }
    }

    /** The latest entries, in a ring: the next entry takes the place of the oldest one. */
    private static final class Book {
        private final int[] kinds = new int[BOOK_SIZE];
        private final int[] steps = new int[BOOK_SIZE];
        private final int[] cords = new int[BOOK_SIZE];
        private int next;
        private int known;

        void copyFrom(Book other) {
            for (int i = 0; i < BOOK_SIZE; i++) {
                kinds[i] = other.kinds[i];
                steps[i] = other.steps[i];
                cords[i] = other.cords[i];
            }
            next = other.next;
            known = other.known;
        }

        void write(int kind, int step, int cord) {
            kinds[next] = kind;
            steps[next] = step;
            cords[next] = cord;
            next = (next + 1) % BOOK_SIZE;
            if (known < BOOK_SIZE) {
                known++;
            }
        }

        void tell(int ago, StringBuilder told) {
            int place = Math.floorMod(next - 1 - ago, BOOK_SIZE);
            told.append(kindText(kinds[place])).append(' ').append(cords[place]);
            told.append('@').append(steps[place]);
        }

        private static String kindText(int kind) {
            switch (kind) {
                case LIT_LEFT: return "lit L";
                case LIT_RIGHT: return "lit R";
                default: return "out";
            }
        }
    }

    /** All that undo and snapshots restore. */
    private static final class State {
        private final Cord[] cords = new Cord[MAX_CORDS];
        private int cordCount;
        private final Rule[] rules = new Rule[MAX_RULES];
        private int ruleCount;
        private final Book book = new Book();
        private int step;
        private int signals;
        private int lightings;
        private int smokySteps;
        private int gap;
        private int longestGap;

        State() {
            for (int i = 0; i < MAX_CORDS; i++) {
                cords[i] = new Cord();
            }
            for (int i = 0; i < MAX_RULES; i++) {
                rules[i] = new Rule();
            }
        }

        void copyFrom(State other) {
            for (int i = 0; i < MAX_CORDS; i++) {
                cords[i].copyFrom(other.cords[i]);
            }
            cordCount = other.cordCount;
            for (int i = 0; i < MAX_RULES; i++) {
                rules[i].copyFrom(other.rules[i]);
            }
            ruleCount = other.ruleCount;
            book.copyFrom(other.book);
            step = other.step;
            signals = other.signals;
            lightings = other.lightings;
            smokySteps = other.smokySteps;
            gap = other.gap;
            longestGap = other.longestGap;
        }

        boolean hasCord(int cord) {
            return cord >= 0 && cord < cordCount;
        }

        boolean hasRoomForCord() {
            return cordCount < MAX_CORDS;
        }

        /** Adds a cord that has no segments yet. */
        Cord addCord() {
            Cord added = cords[cordCount];
            added.clear();
            cordCount++;
            return added;
        }

        boolean hasRoomForRule() {
            return ruleCount < MAX_RULES;
        }

        void addRule(int out, int lit, boolean left) {
            Rule added = rules[ruleCount];
            added.out = out;
            added.lit = lit;
            added.left = left;
            added.timesLit = 0;
            ruleCount++;
        }

        int flameCount() {
            int flames = 0;
            for (int i = 0; i < cordCount; i++) {
                flames += cords[i].flameCount();
            }
            return flames;
        }

        int cordsOut() {
            int set = 0;
            for (int i = 0; i < cordCount; i++) {
                if (cords[i].isOut()) {
                    set |= 1 << i;
                }
            }
            return set;
        }

        void lightEnd(int cord, boolean left) {
            cords[cord].setFlame(left, true);
            lightings++;
            book.write(left ? LIT_LEFT : LIT_RIGHT, step, cord);
        }

        int passSteps(int steps) {
            int given = 0;
            for (int i = 0; i < steps; i++) {
                given += passStep();
            }
            return given;
        }

        /** Lets one step pass; answers how many signals it gives. */
        int passStep() {
            noteSmoke();
            // All cords burn ahead of the first signal, as no rule may light a cord
            // that this very step burns out.
            int outNow = burnCords();
            step++;
            for (int i = 0; i < cordCount; i++) {
                if ((outNow >> i & 1) != 0) {
                    giveSignal(i);
                }
            }
            return Integer.bitCount(outNow);
        }

        private void noteSmoke() {
            if (flameCount() > 0) {
                smokySteps++;
                gap = 0;
            } else {
                gap++;
                longestGap = Math.max(longestGap, gap);
            }
        }

        /** Answers the set of the cords that are burned out by this. */
        private int burnCords() {
            int outNow = 0;
            for (int i = 0; i < cordCount; i++) {
                if (cords[i].burnsOut()) {
                    outNow |= 1 << i;
                }
            }
            return outNow;
        }

        private void giveSignal(int cord) {
            signals++;
            cords[cord].lastOut = step;
            book.write(BURNED_OUT, step, cord);
            for (int i = 0; i < ruleCount; i++) {
                Rule rule = rules[i];
                if (rule.out == cord && hasCord(rule.lit) && cords[rule.lit].canBeLit(rule.left)) {
                    lightEnd(rule.lit, rule.left);
                    rule.timesLit++;
                }
            }
        }
    }

    /**
     * The buffer and its reader. The reader goes on only over characters that an order text can
     * have there, so the place where it stops is the first error, or the end of the buffer.
     */
    private static final class OrderText {
        private final char[] signs = new char[TEXT_SIZE];
        private int length;
        private int at;
        private int word;
        private final int[] times = new int[MAX_SEGMENTS];
        private int timeCount;
        private int out;
        private int cord;
        private boolean left;
        private int steps;

        void addSign(char sign) {
            if (length < TEXT_SIZE) {
                signs[length] = sign;
                length++;
            }
        }

        /** Answers whether the buffer is a complete order text. */
        boolean readAll() {
            at = 0;
            for (int i = 0; i < TEXT_SIZE; i++) {
                if (!readNextOrder()) {
                    return false;
                }
                if (at >= length) {
                    return true;
                }
            }
            return false;
        }

        boolean readNextOrder() {
            return (at == 0 || take(';')) && readOrder();
        }

        private boolean readOrder() {
            if (!readWord() || !take(':')) {
                return false;
            }
            switch (word) {
                case NEW: return readTimes();
                case LIT: return readCord() && readEnd();
                case WHEN: return readOut() && take(',') && readCord() && readEnd();
                default: return readSteps();
            }
        }

        // No two words begin alike, so the first character tells which word must follow.
        private boolean readWord() {
            for (int i = NEW; i <= RUN; i++) {
                String name = wordText(i);
                if (take(name.charAt(0))) {
                    word = i;
                    return takeRest(name);
                }
            }
            return false;
        }

        private static String wordText(int word) {
            switch (word) {
                case NEW: return "new";
                case LIT: return "lit";
                case WHEN: return "when";
                default: return "run";
            }
        }

        private boolean readTimes() {
            timeCount = 0;
            for (int i = 0; i < MAX_SEGMENTS; i++) {
                if (i > 0 && !take('.')) {
                    return true;
                }
                int time = readNumber(MAX_SEGMENT_TIME);
                if (time == NONE) {
                    return false;
                }
                times[i] = time;
                timeCount++;
            }
            return true;
        }

        private boolean readOut() {
            out = readDigit(0, MAX_CORDS - 1);
            return out != NONE;
        }

        private boolean readCord() {
            cord = readDigit(0, MAX_CORDS - 1);
            return cord != NONE;
        }

        private boolean readEnd() {
            left = take('L');
            return left || take('R');
        }

        private boolean readSteps() {
            steps = readNumber(MAX_STEPS);
            return steps != NONE;
        }

        /** Reads as many digits as a number up to most can have; answers NONE without one. */
        private int readNumber(int most) {
            int number = readDigit(1, 9);
            if (number == NONE) {
                return NONE;
            }
            for (int i = 0; i < TEXT_SIZE && number * 10 <= most; i++) {
                int digit = readDigit(0, Math.min(9, most - number * 10));
                if (digit == NONE) {
                    return number;
                }
                number = number * 10 + digit;
            }
            return number;
        }

        private int readDigit(int least, int most) {
            if (at >= length || at >= TEXT_SIZE) {
                return NONE;
            }
            int digit = signs[at] - '0';
            if (digit < least || digit > most) {
                return NONE;
            }
            at++;
            return digit;
        }

        private boolean take(char sign) {
            boolean fits = at < length && at < TEXT_SIZE && signs[at] == sign;
            if (fits) {
                at++;
            }
            return fits;
        }

        private boolean takeRest(String name) {
            for (int i = 1; i < name.length(); i++) {
                if (!take(name.charAt(i))) {
                    return false;
                }
            }
            return true;
        }
    }

    /**
     * All plans for some cords. A plan may light ends only at the beginning and at signals, and each
     * signal burns a cord out, so there are few stages: row i holds how things stand after i of them.
     */
    private static final class Plans {
        private final int[] fewest = new int[MAX_PLAN_TIME + 1];
        private final int[][] timeLeft = new int[MAX_PLAN_CORDS + 1][MAX_PLAN_CORDS];
        private final int[][] flames = new int[MAX_PLAN_CORDS + 1][MAX_PLAN_CORDS];
        private int cordCount;

        void clear() {
            for (int i = 0; i <= MAX_PLAN_TIME; i++) {
                fewest[i] = NONE;
            }
            // A cord that is not there is as one that is burned out from the beginning.
            for (int i = 0; i < MAX_PLAN_CORDS; i++) {
                timeLeft[0][i] = 0;
                flames[0][i] = 0;
            }
            cordCount = 0;
        }

        void addCord(int time) {
            if (cordCount < MAX_PLAN_CORDS) {
                timeLeft[0][cordCount] = time;
                cordCount++;
            }
        }

        void tryFromBeginning() {
            tryAll(0, 0, 0);
        }

        private void tryAll(int stage, int time, int lightings) {
            if (stage < 0 || stage >= MAX_PLAN_CORDS) {
                return;
            }
            for (int a = flames[stage][0]; a <= mostFlames(stage, 0); a++) {
                for (int b = flames[stage][1]; b <= mostFlames(stage, 1); b++) {
                    for (int c = flames[stage][2]; c <= mostFlames(stage, 2); c++) {
                        flames[stage + 1][0] = a;
                        flames[stage + 1][1] = b;
                        flames[stage + 1][2] = c;
                        burnToSignal(stage, time, lightings + newFlames(stage));
                    }
                }
            }
        }

        private int mostFlames(int stage, int cord) {
            return timeLeft[stage][cord] > 0 ? ENDS : 0;
        }

        private int newFlames(int stage) {
            int lit = 0;
            for (int i = 0; i < MAX_PLAN_CORDS; i++) {
                lit += flames[stage + 1][i] - flames[stage][i];
            }
            return lit;
        }

        private void burnToSignal(int stage, int time, int lightings) {
            int steps = stepsToSignal(stage);
            if (steps == NONE) {
                return;
            }
            for (int i = 0; i < MAX_PLAN_CORDS; i++) {
                int left = Math.max(0, timeLeft[stage][i] - flames[stage + 1][i] * steps);
                timeLeft[stage + 1][i] = left;
                if (left == 0) {
                    flames[stage + 1][i] = 0;
                }
            }
            noteTold(time + steps, lightings);
            tryAll(stage + 1, time + steps, lightings);
        }

        private int stepsToSignal(int stage) {
            int least = NONE;
            for (int i = 0; i < MAX_PLAN_CORDS; i++) {
                int burning = flames[stage + 1][i];
                if (burning > 0) {
                    int steps = stepsByDividing(timeLeft[stage][i], burning);
                    least = least == NONE ? steps : Math.min(least, steps);
                }
            }
            return least;
        }

        private void noteTold(int time, int lightings) {
            if (time < 0 || time > MAX_PLAN_TIME) {
                return;
            }
            if (fewest[time] == NONE || lightings < fewest[time]) {
                fewest[time] = lightings;
            }
        }

        int toldTimes() {
            int told = 0;
            for (int i = 1; i <= MAX_PLAN_TIME; i++) {
                if (fewest[i] != NONE) {
                    told++;
                }
            }
            return told;
        }

        int toldTime(int rank) {
            int before = 0;
            for (int i = 1; i <= MAX_PLAN_TIME; i++) {
                if (fewest[i] != NONE) {
                    if (before == rank) {
                        return i;
                    }
                    before++;
                }
            }
            return NONE;
        }
    }
}
