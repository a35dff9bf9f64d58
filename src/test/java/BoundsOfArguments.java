import java.util.ArrayList;
import java.util.List;

/**
 * What the terms say of exceptions, for all methods alike: each argument at its least and greatest
 * values, just outside of them and far outside, alone and together with the others.
 */
final class BoundsOfArguments {
    private static final String TERMS = "Terms";
    private static final int HOUSES = 4;
    private static final int KEYS = 6;
    private static final int RECORDS = 7;
    private static final int DEVICES = 4;

    private interface AskAll {
        long of(TaughtRemotes t, int[] v);
    }

    /** An argument that is a place ('I') or another one ('B'), from 0 or 1 to the greatest. */
    private record Argument(char kind, int least, int greatest) {
        List<Integer> values() {
            return List.of(least, greatest, least - 1, greatest + 1, Integer.MIN_VALUE,
                    Integer.MAX_VALUE);
        }

        boolean allows(int v) {
            return v >= least && v <= greatest;
        }
    }

    private record Face(String name, AskAll ask, Argument... arguments) {
    }

    private static final List<Face> METHODS = methods();

    private BoundsOfArguments() {
    }

    static void run() {
        Bounds.sentence(TERMS, "IndexOutOfBoundsException means that a house, a key, a record or a "
                + "device does not exist, or that a save slot is not 0 or 1.", () -> oneOutside('I'));
        Bounds.sentence(TERMS, "IllegalArgumentException means that another argument is out of its "
                + "range.", () -> oneOutside('B'));
        Bounds.sentence(TERMS, "IllegalStateException means what the method says.",
                BoundsOfArguments::onlyWhereTheMethodSaysIt);
        Bounds.sentence(TERMS, "If several exceptions apply to a call, the one that its description "
                + "names first is thrown.", BoundsOfArguments::allTogether);
        Bounds.sentence(TERMS, "A call that throws an exception changes nothing.",
                BoundsOfArguments::refusedCallsChangeNothing);
    }

    private static Argument house() {
        return new Argument('I', 0, HOUSES - 1);
    }

    private static Argument key() {
        return new Argument('I', 0, KEYS - 1);
    }

    private static Argument record() {
        return new Argument('I', 0, RECORDS - 1);
    }

    private static Argument device() {
        return new Argument('I', 0, DEVICES - 1);
    }

    private static Argument slot() {
        return new Argument('I', 0, 1);
    }

    private static Argument upTo(int greatest) {
        return new Argument('B', 0, greatest);
    }

    private static Argument from1To(int greatest) {
        return new Argument('B', 1, greatest);
    }

    /** The numbers of houses and so on are those of Bounds.busy(). */
    private static List<Face> methods() {
        List<Face> all = new ArrayList<>();
        all.add(new Face("append", (t, v) -> t.append(v[0]), upTo(255)));
        all.add(new Face("about", (t, v) -> t.about(v[0]), upTo(9)));
        all.add(new Face("key", (t, v) -> t.key(v[0], v[1], v[2]), house(), key(), upTo(5)));
        all.add(new Face("record", (t, v) -> t.record(v[0], v[1]), record(), upTo(6)));
        all.add(new Face("device", (t, v) -> t.device(v[0], v[1]), device(), upTo(4)));
        all.add(new Face("trace", (t, v) -> t.trace(v[0], v[1], v[2]), house(), key(),
                upTo(Integer.MAX_VALUE)));
        all.add(new Face("wentWrong", (t, v) -> t.wentWrong(v[0], v[1]), house(), key()));
        all.add(new Face("common", (t, v) -> t.common(v[0], v[1], v[2], v[3]), house(), key(),
                house(), key()));
        all.add(new Face("accepted", (t, v) -> t.accepted(v[0], v[1]), house(), key()));
        addActions(all);
        all.add(new Face("wouldBe", (t, v) -> t.wouldBe(v[0], v[1], v[2]), house(), key(),
                house()));
        all.add(new Face("handed", (t, v) -> t.handed(v[0], v[1], v[2]), house(), key(), house()));
        all.add(new Face("bestTeacher", (t, v) -> t.bestTeacher(v[0], v[1]), house(), device()));
        all.add(new Face("leastTolerance", (t, v) -> t.leastTolerance(v[0]), device()));
        all.add(new Face("runScript", (t, v) -> t.runScript(v[0], 20000), from1To(3)));
        all.add(new Face("runScript(1, ..)", (t, v) -> t.runScript(1, v[0]), upTo(99999)));
        all.add(new Face("simulate", (t, v) -> t.simulate(v[0], v[1], 1, v[2]), house(), key(),
                from1To(60)));
        all.add(new Face("save", (t, v) -> t.save(v[0]), slot()));
        all.add(new Face("restore", (t, v) -> t.restore(v[0]), slot()));
        return all;
    }

    private static void addActions(List<Face> all) {
        all.add(new Face("enter", (t, v) -> t.enter(v[0], v[1], v[2]), house(), key(),
                upTo(4095)));
        all.add(new Face("teach", (t, v) -> t.teach(v[0], v[1], v[2], v[3]), house(), key(),
                house(), key()));
        all.add(new Face("erase", (t, v) -> t.erase(v[0], v[1]), house(), key()));
        all.add(new Face("press", (t, v) -> t.press(v[0], v[1]), house(), key()));
        all.add(new Face("addDevice", (t, v) -> t.addDevice(v[0], v[1], v[2]), house(),
                upTo(4095), upTo(3)));
        all.add(new Face("setTolerance", (t, v) -> t.setTolerance(v[0], v[1]), device(),
                upTo(3)));
        all.add(new Face("set(0, ..)", (t, v) -> t.set(0, v[0]), upTo(3)));
        all.add(new Face("set(1, ..)", (t, v) -> t.set(1, v[0]), upTo(8)));
        all.add(new Face("set(.., 0)", (t, v) -> t.set(v[0], 0), upTo(1)));
    }

    /** The values of the arguments, each one told by a digit of the number to the base 6. */
    private static int[] values(Face face, int number) {
        int[] v = new int[face.arguments.length];
        int left = number;
        for (int i = 0; i < v.length; i++) {
            v[i] = face.arguments[i].values().get(left % 6);
            left /= 6;
        }
        return v;
    }

    private static int allCases(Face face) {
        int cases = 1;
        for (int i = 0; i < face.arguments.length; i++) {
            cases *= 6;
        }
        return cases;
    }

    private static int outside(Face face, int[] v, char kind) {
        int outside = 0;
        for (int i = 0; i < v.length; i++) {
            if (face.arguments[i].kind == kind && !face.arguments[i].allows(v[i])) {
                outside++;
            }
        }
        return outside;
    }

    private static String told(Face face, int[] v) {
        StringBuilder told = new StringBuilder(face.name);
        for (int one : v) {
            told.append(' ').append(one);
        }
        return told.toString();
    }

    private static String outcome(Face face, int[] v) {
        return Bounds.outcome(Bounds.busy(), t -> face.ask.of(t, v));
    }

    private static void oneOutside(char kind) {
        String want = (kind == 'I' ? Due.NO_PLACE : Due.BAD_ARGUMENT).getName();
        for (Face face : METHODS) {
            for (int i = 0; i < allCases(face); i++) {
                int[] v = values(face, i);
                int places = outside(face, v, 'I');
                int others = outside(face, v, 'B');
                if (places + others == 1 && (kind == 'I' ? places : others) == 1) {
                    Due.same(want, outcome(face, v), told(face, v));
                }
            }
        }
    }

    /** All arguments are in their ranges: what is thrown then is due to the state or the keys. */
    private static void onlyWhereTheMethodSaysIt() {
        for (Face face : METHODS) {
            for (int i = 0; i < allCases(face); i++) {
                int[] v = values(face, i);
                if (outside(face, v, 'I') + outside(face, v, 'B') == 0) {
                    Due.same(wantInside(face, v), exceptionOf(outcome(face, v)), told(face, v));
                }
            }
        }
    }

    private static String exceptionOf(String outcome) {
        return outcome.endsWith("Exception") ? outcome : "no exception";
    }

    private static String wantInside(Face face, int[] v) {
        boolean teach = face.name.equals("teach");
        if (teach && v[0] == v[2] && v[1] == v[3]) {
            return Due.BAD_ARGUMENT.getName();
        }
        boolean asksForACode = teach || face.name.equals("press");
        boolean coded = asksForACode && Bounds.busy().key(v[0], v[1], 0) != Due.NONE;
        return asksForACode && !coded ? Due.BAD_STATE.getName() : "no exception";
    }

    /** Everything outside together: a place first, then another argument, whatever the state is. */
    private static void allTogether() {
        Bounds.Maker[] makers = {Bounds::busy, () -> {
            TaughtRemotes t = Bounds.fullOfRecords();
            t.addDevice(0, 0, 0);
            t.addDevice(0, 0, 0);
            Due.write(t, "x".repeat(120));
            return t;
        }};
        for (Face face : METHODS) {
            for (int i = 0; i < allCases(face); i++) {
                int[] v = values(face, i);
                boolean places = outside(face, v, 'I') > 0;
                if (places || outside(face, v, 'B') > 0) {
                    String want = (places ? Due.NO_PLACE : Due.BAD_ARGUMENT).getName();
                    boolean full = i % 3 == 0 && !grows(face);
                    String got = Bounds.outcome(makers[full ? 1 : 0].make(),
                            t -> face.ask.of(t, v));
                    Due.same(want, got, told(face, v));
                }
            }
        }
    }

    /** Those whose places are more on a full object. */
    private static boolean grows(Face face) {
        for (Argument argument : face.arguments) {
            if (argument.equals(record()) || argument.equals(device())) {
                return true;
            }
        }
        return false;
    }

    private static void refusedCallsChangeNothing() {
        for (Face face : METHODS) {
            for (int i = 0; i < allCases(face); i++) {
                int[] v = values(face, i);
                if (outside(face, v, 'I') + outside(face, v, 'B') == 1) {
                    Bounds.unchanged(Bounds::busy, told(face, v), t -> face.ask.of(t, v));
                }
            }
        }
        Bounds.unchanged(() -> Bounds.withText("x"), "load", t -> t.load());
        Bounds.unchanged(Bounds::untouched, "undo", t -> t.undo());
        Bounds.unchanged(Bounds::untouched, "restore", t -> t.restore(0));
        Bounds.unchanged(Bounds::busy, "press", t -> t.press(1, 0));
        Bounds.unchanged(Bounds::busy, "teach", t -> t.teach(1, 0, 0, 0));
        Bounds.unchanged(Bounds::fullOfRecords, "teach", t -> t.teach(0, 0, 1, 0));
        Bounds.unchanged(Bounds::fullOfRecords, "enter", t -> t.enter(0, 0, 0));
        Bounds.unchanged(Bounds::fullOfDevices, "addDevice", t -> t.addDevice(0, 0, 0));
    }
}
