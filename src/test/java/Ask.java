/** Ways to ask a clock that several tests share. */
final class Ask {
    static final int NUMBERS_OF_A_CORD = 8;
    static final int NUMBERS_OF_A_RULE = 4;
    static final int COUNTS = 12;
    static final int LOW = Integer.MIN_VALUE;
    static final int HIGH = Integer.MAX_VALUE;
    private static final int SAVED_STATES = 10;
    private static final int LONG_TEXT = 99;

    private Ask() {
    }

    /** A clock that has executed some order texts, each by one call. */
    static CordClock clockOf(String... texts) {
        CordClock clock = new CordClock();
        for (String text : texts) {
            execute(clock, text);
        }
        return clock;
    }

    static void type(CordClock clock, String text) {
        for (int i = 0; i < text.length(); i++) {
            clock.append(text.charAt(i));
        }
    }

    static int execute(CordClock clock, String text) {
        type(clock, text);
        return clock.execute();
    }

    static int firstError(CordClock clock, String text) {
        clock.clearBuffer();
        type(clock, text);
        int error = clock.firstError();
        clock.clearBuffer();
        return error;
    }

    static String entry(CordClock clock, int ago) {
        StringBuilder text = new StringBuilder();
        for (int i = 0; i < LONG_TEXT && clock.entry(ago, i) != CordClock.NONE; i++) {
            text.append((char) clock.entry(ago, i));
        }
        return text.toString();
    }

    /** The entries that the book knows, the latest one first. */
    static String book(CordClock clock) {
        StringBuilder text = new StringBuilder();
        for (int i = 0; i < clock.count(9); i++) {
            text.append(i == 0 ? "" : ", ").append(entry(clock, i));
        }
        return text.toString();
    }

    /** All that undo and snapshots restore, as a text. */
    static String state(CordClock clock) {
        StringBuilder text = new StringBuilder();
        for (int what = 0; what < SAVED_STATES; what++) {
            text.append(clock.count(what)).append(' ');
        }
        for (int cord = 0; cord < clock.count(1); cord++) {
            text.append("/ cord ");
            for (int what = 0; what < NUMBERS_OF_A_CORD; what++) {
                text.append(clock.cordOf(cord, what)).append(' ');
            }
            for (int segment = 0; segment < clock.cordOf(cord, 1); segment++) {
                text.append(clock.segment(cord, segment)).append('.');
            }
            text.append(clock.front(cord, true)).append(clock.front(cord, false));
        }
        for (int rule = 0; rule < clock.count(2); rule++) {
            text.append("/ rule ");
            for (int what = 0; what < NUMBERS_OF_A_RULE; what++) {
                text.append(clock.ruleOf(rule, what)).append(' ');
            }
        }
        return text.append("/ ").append(book(clock)).toString();
    }

    /** All that the queries tell, the state and what else there is. */
    static String all(CordClock clock) {
        return state(clock) + "/ " + clock.count(10) + ' ' + clock.count(11) + ' ' + clock.firstError();
    }
}
