import java.util.ArrayList;
import java.util.List;
import java.util.Map;
import java.util.TreeMap;

/**
 * What the tests of boundary cases have in common. Each of these tests is one method, and stands in
 * its class's run() behind the section and the words of the document that it tests.
 */
final class Bounds {
    interface Maker {
        TaughtRemotes make();
    }

    interface Ask {
        long of(TaughtRemotes t);
    }

    private interface Look {
        String at(TaughtRemotes t);
    }

    static final int[] FAR = {Integer.MIN_VALUE, Integer.MAX_VALUE, Due.NONE, 1 << 16, -(1 << 16)};

    private static final Map<String, List<String>> TESTED = new TreeMap<>();
    private static final List<Look> LOOKS = looks();

    private Bounds() {
    }

    // ---- the sentences

    static void sentence(String section, String words, Runnable test) {
        TESTED.computeIfAbsent(section, s -> new ArrayList<>()).add(words);
        Due.under(section + ", \"" + words + "\": ");
        int before = Due.checks();
        test.run();
        Due.same("true", "" + (Due.checks() > before), "the test checks something");
        Due.under("");
    }

    static Map<String, List<String>> tested() {
        return TESTED;
    }

    // ---- objects to begin with

    /**
     * Something of everything: houses 0 to 3; codes at the keys 0 0, 0 1, 2 0, 2 2, 3 0, 3 5 and
     * none at the others, 1 1 being erased; 7 records, 4 devices, 9 remembered states, a street in
     * each save slot, and a text that is another street.
     */
    static TaughtRemotes busy() {
        TaughtRemotes t = Due.street("R4k000000k114095k350007d000000d100012d300073n3s1");
        t.teach(0, 0, 3, 0);
        t.teach(3, 0, 0, 1);
        t.press(0, 0);
        t.save(0);
        t.enter(2, 2, 5);
        t.addDevice(2, 5, 1);
        t.set(1, 3);
        t.save(1);
        t.teach(0, 1, 2, 0);
        t.erase(1, 1);
        t.press(2, 2);
        Due.write(t, "R3k210009n2");
        return t;
    }

    static TaughtRemotes busyWithRecords(int records) {
        TaughtRemotes t = busy();
        for (int i = t.about(2); i < records; i++) {
            t.enter(0, 5, i);
        }
        return t;
    }

    static TaughtRemotes fullOfRecords() {
        return busyWithRecords(40);
    }

    static TaughtRemotes fullOfDevices() {
        TaughtRemotes t = busy();
        t.addDevice(0, 6, 0);
        t.addDevice(3, 6, 3);
        return t;
    }

    static TaughtRemotes withText(String text) {
        TaughtRemotes t = busy();
        Due.write(t, text);
        return t;
    }

    /** A new object, on which nothing has been done: no records, no devices, empty slots. */
    static TaughtRemotes untouched() {
        return new TaughtRemotes();
    }

    /** Houses 0 and 8 in turn teach one another, so far that with noise 3 a bit is always wrong. */
    static TaughtRemotes chainOf(int records, int noise) {
        TaughtRemotes t = Due.street("R9k000000n" + noise);
        for (int i = 1; i < records; i++) {
            t.teach(i % 2 == 1 ? 0 : 8, 0, i % 2 == 1 ? 8 : 0, 0);
        }
        return t;
    }

    /** Forty keys, house by house, all with codes from the first one; they are all 0. */
    static TaughtRemotes fortyKeysOfOne() {
        TaughtRemotes t = Due.street("R9k000000n0");
        for (int i = 1; i < 40; i++) {
            t.teach(0, 0, i / 6, i % 6);
        }
        return t;
    }

    // ---- calls that are refused

    /**
     * The call throws just this class, and what can be asked and done afterwards is the same as on
     * an object that has not been called: the state, x, what is remembered, the slots, the text.
     */
    static void refused(Class<?> kind, Maker maker, String what, Ask ask) {
        Due.same(kind.getName(), outcome(maker.make(), ask), what);
        unchanged(maker, what, ask);
    }

    static void unchanged(Maker maker, String what, Ask ask) {
        for (int i = 0; i < LOOKS.size(); i++) {
            TaughtRemotes called = maker.make();
            outcome(called, ask);
            Due.same(LOOKS.get(i).at(maker.make()), LOOKS.get(i).at(called),
                    what + " changes nothing, look " + i + ",");
        }
    }

    /** What the call answers, or the name of what it throws. */
    static String outcome(TaughtRemotes t, Ask ask) {
        try {
            return String.valueOf(ask.of(t));
        } catch (RuntimeException e) {
            return e.getClass().getName();
        }
    }

    private static List<Look> looks() {
        List<Look> looks = new ArrayList<>();
        looks.add(Bounds::all);
        for (int undone = 1; undone <= 15; undone++) {
            int times = undone;
            looks.add(t -> undone(t, times));
        }
        for (int s = 0; s < 2; s++) {
            int slot = s;
            looks.add(t -> outcome(t, a -> a.restore(slot)) + all(t));
        }
        looks.add(t -> t.errorPosition() + outcome(t, a -> a.load()) + all(t) + t.clearText());
        return looks;
    }

    private static String undone(TaughtRemotes t, int times) {
        StringBuilder undone = new StringBuilder();
        for (int i = 0; i < times; i++) {
            undone.append(outcome(t, a -> a.undo())).append(' ');
        }
        return undone + all(t);
    }

    /** The state, and what is learned from now on; at most 360 calls. */
    static String all(TaughtRemotes t) {
        StringBuilder all = new StringBuilder("about");
        for (int what = 0; what <= 9; what++) {
            all.append(' ').append(t.about(what));
        }
        for (int i = 0; i < t.about(2); i++) {
            all.append(" record");
            for (int what = 0; what <= 4; what++) {
                all.append(' ').append(t.record(i, what));
            }
        }
        for (int d = 0; d < t.about(1); d++) {
            all.append(" device");
            for (int what = 0; what <= 3; what++) {
                all.append(' ').append(t.device(d, what));
            }
        }
        return all + keys(t);
    }

    private static String keys(TaughtRemotes t) {
        StringBuilder keys = new StringBuilder(" keys");
        int houses = t.about(0);
        int coded = -1;
        for (int i = 0; i < 6 * houses; i++) {
            int record = t.key(i / 6, i % 6, 1);
            keys.append(' ').append(record);
            coded = record == Due.NONE ? coded : i;
        }
        // Without a code x cannot be seen; one that is entered shows it.
        if (coded < 0 && t.about(2) < 40) {
            t.enter(0, 0, 0);
            coded = 0;
        }
        t.set(0, 3);
        for (int to = 0; coded >= 0 && to < houses; to++) {
            keys.append(" x ").append(t.wouldBe(coded / 6, coded % 6, to)).append(' ')
                    .append(t.handed(coded / 6, coded % 6, to));
        }
        return keys.toString();
    }

    // ---- texts

    /** What errorPosition answers of a text on a new object, and that the text is left as it is. */
    static void position(int want, String text) {
        TaughtRemotes t = new TaughtRemotes();
        Due.write(t, text);
        Due.answers(want, "errorPosition of " + text, t::errorPosition);
        Due.answers(want, "errorPosition once more of " + text, t::errorPosition);
        Due.answers(text.length(), "the length of " + text, t::clearText);
    }

    static void isStreet(String text) {
        position(Due.NONE, text);
    }
}
