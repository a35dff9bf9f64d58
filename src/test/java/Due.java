/** What the tests have in common: answers that are due, calls that are to be refused. */
final class Due {
    interface Call {
        long answer();
    }

    static final Class<IndexOutOfBoundsException> NO_PLACE = IndexOutOfBoundsException.class;
    static final Class<IllegalArgumentException> BAD_ARGUMENT = IllegalArgumentException.class;
    static final Class<IllegalStateException> BAD_STATE = IllegalStateException.class;
    static final int NONE = -9;

    private static int checks;
    private static int wrong;
    // The sentence of the document that is tested just now, told with each wrong answer.
    private static String heading = "";

    private Due() {
    }

    static void answers(long want, String what, Call call) {
        String got;
        try {
            got = String.valueOf(call.answer());
        } catch (RuntimeException e) {
            got = e.toString();
        }
        same(String.valueOf(want), got, what);
    }

    /**
     * The call throws just this class, not one below it, and changes nothing that a few calls can
     * tell; Bounds.refused looks at all there is.
     */
    static void refuses(Class<?> kind, TaughtRemotes t, String what, Call call) {
        String before = numbers(t);
        String got;
        try {
            got = String.valueOf(call.answer());
        } catch (RuntimeException e) {
            got = e.getClass().getName();
        }
        same(kind.getName(), got, what);
        same(before, numbers(t), what + " changes nothing");
    }

    static void same(String want, String got, String what) {
        checks++;
        if (!want.equals(got)) {
            wrong++;
            System.out.println(heading + what + " answered " + got + ", due is " + want);
        }
    }

    static void under(String newHeading) {
        heading = newHeading;
    }

    static int checks() {
        return checks;
    }

    static void end(String name) {
        System.out.println(name + ": " + checks + " checks, " + wrong + " wrong");
        if (wrong > 0 || checks == 0) {
            System.exit(1);
        }
    }

    static TaughtRemotes street(String text) {
        TaughtRemotes t = new TaughtRemotes();
        write(t, text);
        t.load();
        return t;
    }

    static void write(TaughtRemotes t, String text) {
        t.clearText();
        for (char c : text.toCharArray()) {
            t.append(c);
        }
    }

    private static String numbers(TaughtRemotes t) {
        StringBuilder numbers = new StringBuilder("text").append(t.errorPosition());
        for (int what = 1; what <= 9; what++) {
            numbers.append(" about").append(t.about(what));
        }
        return numbers.toString();
    }

    /** What can be seen of the state and of the text by calls that change nothing. */
    static String seen(TaughtRemotes t) {
        StringBuilder all = new StringBuilder(numbers(t));
        for (int i = 0; i < t.about(2); i++) {
            for (int what = 0; what <= 4; what++) {
                all.append(" record").append(t.record(i, what));
            }
        }
        for (int d = 0; d < t.about(1); d++) {
            for (int what = 0; what <= 3; what++) {
                all.append(" device").append(t.device(d, what));
            }
        }
        return all + keysSeen(t);
    }

    /** The keys, and x by what the last one with a code would teach. */
    private static String keysSeen(TaughtRemotes t) {
        StringBuilder keys = new StringBuilder();
        int houses = t.about(0);
        int coded = NONE;
        for (int i = 0; i < 6 * houses; i++) {
            int record = t.key(i / 6, i % 6, 1);
            keys.append(" key").append(record);
            coded = record == NONE ? coded : i;
        }
        for (int to = 0; coded != NONE && to < houses; to++) {
            keys.append(' ').append(t.wouldBe(coded / 6, coded % 6, to));
            keys.append(' ').append(t.handed(coded / 6, coded % 6, to));
        }
        return keys.toString();
    }
}
