/** What the tests have in common: answers that are due, calls that are to be refused. */
final class Due {
    interface Call {
        long answer();
    }

    static final Class<IndexOutOfBoundsException> NO_PLACE = IndexOutOfBoundsException.class;
    static final Class<IllegalArgumentException> BAD_ARGUMENT = IllegalArgumentException.class;
    static final Class<IllegalStateException> BAD_STATE = IllegalStateException.class;
    static final int NONE = -9;

    private static int checks;
    private static int wrong;

    private Due() {
    }

    static void answers(long want, String what, Call call) {
        String got;
        try {
            got = String.valueOf(call.answer());
        } catch (RuntimeException e) {
            got = e.toString();
        }
        same(String.valueOf(want), got, what);
    }

    /** The call throws just this class, not one below it, and changes nothing that can be seen. */
    static void refuses(Class<?> kind, TaughtRemotes t, String what, Call call) {
        String before = seen(t);
        String got;
        try {
            got = String.valueOf(call.answer());
        } catch (RuntimeException e) {
            got = e.getClass().getName();
        }
        same(kind.getName(), got, what);
        same(before, seen(t), what + " changes nothing");
    }

    static void same(String want, String got, String what) {
        checks++;
        if (!want.equals(got)) {
            wrong++;
            System.out.println(what + " answered " + got + ", due is " + want);
        }
    }

    static void end(String name) {
        System.out.println(name + ": " + checks + " checks, " + wrong + " wrong");
        if (wrong > 0 || checks == 0) {
            System.exit(1);
        }
    }

    static TaughtRemotes street(String text) {
        TaughtRemotes t = new TaughtRemotes();
        write(t, text);
        t.load();
        return t;
    }

    static void write(TaughtRemotes t, String text) {
        t.clearText();
        for (char c : text.toCharArray()) {
            t.append(c);
        }
    }

    /** Everything that can be seen of the state and of the text by calls that change nothing. */
    static String seen(TaughtRemotes t) {
        StringBuilder all = new StringBuilder();
        all.append("text").append(t.errorPosition());
        for (int what = 0; what <= 9; what++) {
            all.append(" about").append(t.about(what));
        }
        for (int i = 0; i < t.about(2); i++) {
            for (int what = 0; what <= 6; what++) {
                all.append(" record").append(t.record(i, what));
            }
        }
        for (int d = 0; d < t.about(1); d++) {
            for (int what = 0; what <= 4; what++) {
                all.append(" device").append(t.device(d, what));
            }
        }
        int houses = t.about(0);
        for (int h = 0; h < houses; h++) {
            for (int k = 0; k < 6; k++) {
                all.append(" key").append(t.key(h, k, 1)).append(' ').append(t.accepted(h, k));
                for (int to = 0; to < houses; to++) {
                    all.append(' ').append(t.wouldBe(h, k, to)).append(' ').append(t.handed(h, k, to));
                }
            }
        }
        return all.toString();
    }
}
