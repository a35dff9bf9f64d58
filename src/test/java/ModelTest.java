import java.util.Random;

/**
 * Runs of calls with arguments of all kinds, each answer compared with the one of Model. The seeds
 * are written here, so that each run is always the same.
 */
public final class ModelTest {
    private static final int RUNS = 600;
    // An object is used for so many calls; what later ones answer is free.
    private static final int CALLS = 512;
    private static final int CALLS_OF_A_TEXT = 130;

    private final Random dice;
    private final TaughtRemotes t = new TaughtRemotes();
    private final Model m = new Model();
    // How often, of a hundred, an argument may be one that is out of its range.
    private final int odd;
    private final boolean textOnly;

    private ModelTest(long seed) {
        dice = new Random(seed);
        odd = new int[] {0, 2, 10}[(int) (seed % 3)];
        textOnly = seed % 10 == 9;
    }

    public static void main(String[] args) {
        for (int run = 0; run < RUNS; run++) {
            new ModelTest(run).run(run);
        }
        Due.end("ModelTest");
    }

    private void run(int run) {
        int calls = 0;
        if (dice.nextInt(3) > 0) {
            calls = write(street());
        }
        while (calls < CALLS) {
            int kind = textOnly ? dice.nextInt(3) : dice.nextInt(60);
            if (kind == 0 && calls < CALLS - CALLS_OF_A_TEXT) {
                calls += write(dice.nextBoolean() ? street() : spoiled(street()));
                compare(run, "errorPosition", t::errorPosition, m::errorPosition);
                if (textOnly || dice.nextInt(8) == 0) {
                    compare(run, "load", t::load, m::load);
                }
                calls += 2;
            } else {
                call(run);
                calls++;
            }
        }
    }

    private int write(String text) {
        compare(-1, "clearText", t::clearText, m::clearText);
        for (char c : text.toCharArray()) {
            compare(-1, "append " + (int) c, () -> t.append(c), () -> m.append(c));
        }
        compare(-1, "errorPosition of " + text, t::errorPosition, m::errorPosition);
        return text.length() + 2;
    }

    private String street() {
        int houses = 2 + dice.nextInt(8);
        StringBuilder text = new StringBuilder("R").append(houses);
        int parts = dice.nextInt(dice.nextBoolean() ? 10 : 22);
        for (int i = 0; i < parts && text.length() < 118; i++) {
            switch (dice.nextInt(4)) {
                case 0, 1 -> text.append('k').append(dice.nextInt(houses)).append(dice.nextInt(6))
                        .append(fourDigits());
                case 2 -> text.append('d').append(dice.nextInt(houses)).append(fourDigits())
                        .append(dice.nextInt(4));
                default -> text.append(dice.nextBoolean() ? "n" + dice.nextInt(4)
                        : "s" + dice.nextInt(9));
            }
        }
        return text.toString();
    }

    private String fourDigits() {
        int code = dice.nextInt(3) == 0 ? 4080 + dice.nextInt(20) : code();
        return String.format("%04d", Math.max(0, code));
    }

    private String spoiled(String text) {
        StringBuilder spoiled = new StringBuilder(text);
        int at = dice.nextInt(spoiled.length());
        switch (dice.nextInt(4)) {
            case 0 -> spoiled.setLength(at);
            case 1 -> spoiled.setCharAt(at, "kdnsR0123456789 x".charAt(dice.nextInt(17)));
            case 2 -> spoiled.deleteCharAt(at);
            default -> spoiled.insert(at, (char) ('0' + dice.nextInt(10)));
        }
        return spoiled.toString();
    }

    /** A number below the bound as a rule, otherwise one at the edges or far away. */
    private int below(int bound) {
        if (dice.nextInt(100) >= odd) {
            return dice.nextInt(bound);
        }
        int[] far = {-1, bound, bound + 1, -9, Integer.MIN_VALUE, Integer.MAX_VALUE, 1 << 16, -10};
        return far[dice.nextInt(far.length)];
    }

    private int h() {
        return below(Math.max(1, m.about(0)));
    }

    private int k() {
        return below(dice.nextBoolean() ? 2 : 6);
    }

    private int d() {
        return below(Math.max(1, m.about(1)));
    }

    /** Codes that are often near one another. */
    private int code() {
        int bit = dice.nextInt(4) == 0 ? 1 << dice.nextInt(12) : 0;
        return dice.nextInt(3) == 0 ? below(4096) : 1365 ^ bit;
    }

    private long script(int n) {
        if (dice.nextInt(100) < odd) {
            return dice.nextLong();
        }
        long script = 0;
        for (int i = 0; i < n; i++) {
            script = script * 100000 + group();
        }
        return script;
    }

    /** A group of five digits that is a command as a rule, of a house and device that exist. */
    private int group() {
        if (dice.nextInt(20) == 0) {
            return dice.nextInt(100000);
        }
        int kind = 1 + dice.nextInt(9);
        int house = dice.nextInt(Math.min(10, m.about(0) + dice.nextInt(2)));
        int device = dice.nextInt(m.about(1) + 1);
        int key = dice.nextInt(2);
        int[] rest = switch (kind) {
            case 1 -> new int[] {house, key, dice.nextInt(m.about(0)), dice.nextInt(2)};
            case 2, 3 -> new int[] {house, key, 0, 0};
            case 4 -> new int[] {dice.nextInt(3), dice.nextInt(10), 0, 0};
            case 5 -> new int[] {device, dice.nextInt(5), 0, 0};
            case 6, 7 -> new int[] {house, key, 0, dice.nextInt(3)};
            case 8 -> new int[] {house, key, device, 0};
            default -> new int[] {device, 0, 0, dice.nextInt(3)};
        };
        int group = kind;
        for (int digit : rest) {
            group = 10 * group + digit;
        }
        return group;
    }

    private void call(int run) {
        int a = h();
        int b = k();
        int c = h();
        int e = k();
        int v = d();
        switch (dice.nextInt(38)) {
            case 0 -> ask(run, "about", below(10), 0, 0, 0);
            case 1, 2 -> ask(run, "key", a, b, below(6), 0);
            case 3, 4 -> ask(run, "record", below(Math.max(1, m.about(2))), below(7), 0, 0);
            case 5 -> ask(run, "device", v, below(5), 0, 0);
            case 6 -> ask(run, "trace", a, b, below(5), 0);
            case 7 -> ask(run, "wentWrong", a, b, 0, 0);
            case 8 -> ask(run, "common", a, b, c, e);
            case 9 -> ask(run, "accepted", a, b, 0, 0);
            case 10, 11, 12 -> ask(run, "enter", a, b, code(), 0);
            case 13, 14, 15, 16, 17 -> ask(run, "teach", a, b, c, e);
            case 18 -> ask(run, "erase", a, b, 0, 0);
            case 19, 20 -> ask(run, "press", a, b, 0, 0);
            case 21 -> ask(run, "addDevice", a, code(), below(4), 0);
            case 22 -> ask(run, "setTolerance", v, below(4), 0, 0);
            case 23 -> ask(run, "set", below(2), dice.nextBoolean() ? below(4) : below(9), 0, 0);
            case 24, 25 -> ask(run, "undo", 0, 0, 0, 0);
            case 26 -> ask(run, "wouldBe", a, b, c, 0);
            case 27 -> ask(run, "handed", a, b, c, 0);
            case 28 -> ask(run, "bestTeacher", a, v, 0, 0);
            case 29 -> ask(run, "leastTolerance", v, 0, 0, 0);
            case 30, 31, 34, 35, 36, 37 -> scriptOrWay(run, a, b);
            case 32 -> ask(run, "save", below(2), 0, 0, 0);
            default -> ask(run, dice.nextInt(4) == 0 ? "restore" : "undo", below(2), 0, 0, 0);
        }
    }

    private void scriptOrWay(int run, int a, int b) {
        if (dice.nextInt(4) > 0) {
            int n = 1 + below(3);
            long script = script(n < 1 || n > 3 ? 1 : n);
            compare(run, "runScript " + n + " " + script, () -> t.runScript(n, script),
                    () -> m.runScript(n, script));
        } else {
            long seed = dice.nextLong();
            int times = 1 + below(60);
            compare(run, "simulate " + a + " " + b + " " + seed + " " + times,
                    () -> t.simulate(a, b, seed, times), () -> m.simulate(a, b, seed, times));
        }
    }

    private void ask(int run, String name, int a, int b, int c, int d) {
        compare(run, name + " " + a + " " + b + " " + c + " " + d,
                () -> ofProgram(name, a, b, c, d), () -> ofModel(name, a, b, c, d));
    }

    private long ofProgram(String name, int a, int b, int c, int d) {
        return switch (name) {
            case "about" -> t.about(a);
            case "key" -> t.key(a, b, c);
            case "record" -> t.record(a, b);
            case "device" -> t.device(a, b);
            case "trace" -> t.trace(a, b, c);
            case "wentWrong" -> t.wentWrong(a, b);
            case "common" -> t.common(a, b, c, d);
            case "accepted" -> t.accepted(a, b);
            case "enter" -> t.enter(a, b, c);
            case "teach" -> t.teach(a, b, c, d);
            case "erase" -> t.erase(a, b);
            case "press" -> t.press(a, b);
            case "addDevice" -> t.addDevice(a, b, c);
            case "setTolerance" -> t.setTolerance(a, b);
            case "set" -> t.set(a, b);
            case "undo" -> t.undo();
            case "wouldBe" -> t.wouldBe(a, b, c);
            case "handed" -> t.handed(a, b, c);
            case "bestTeacher" -> t.bestTeacher(a, b);
            case "leastTolerance" -> t.leastTolerance(a);
            case "save" -> t.save(a);
            default -> t.restore(a);
        };
    }

    private long ofModel(String name, int a, int b, int c, int d) {
        return switch (name) {
            case "about" -> m.about(a);
            case "key" -> m.key(a, b, c);
            case "record" -> m.record(a, b);
            case "device" -> m.device(a, b);
            case "trace" -> m.trace(a, b, c);
            case "wentWrong" -> m.wentWrong(a, b);
            case "common" -> m.common(a, b, c, d);
            case "accepted" -> m.accepted(a, b);
            case "enter" -> m.enter(a, b, c);
            case "teach" -> m.teach(a, b, c, d);
            case "erase" -> m.erase(a, b);
            case "press" -> m.press(a, b);
            case "addDevice" -> m.addDevice(a, b, c);
            case "setTolerance" -> m.setTolerance(a, b);
            case "set" -> m.set(a, b);
            case "undo" -> m.undo();
            case "wouldBe" -> m.wouldBe(a, b, c);
            case "handed" -> m.handed(a, b, c);
            case "bestTeacher" -> m.bestTeacher(a, b);
            case "leastTolerance" -> m.leastTolerance(a);
            case "save" -> m.save(a);
            default -> m.restore(a);
        };
    }

    private static void compare(int run, String what, Due.Call program, Due.Call model) {
        Due.same(outcome(model), outcome(program), "run " + run + ": " + what);
    }

    private static String outcome(Due.Call call) {
        try {
            return String.valueOf(call.answer());
        } catch (RuntimeException e) {
            return e.getClass().getName();
        }
    }
}
