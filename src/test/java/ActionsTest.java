/** Promises 14 to 21: the actions, and undo. */
public final class ActionsTest {
    public static void main(String[] args) {
        promise14();
        promise15();
        promise15noise();
        promise15refuses();
        promise16();
        promise17();
        promise18();
        promise19();
        promise20();
        promise21();
        promise21eachAction();
        promise21refusedCalls();
        Due.end("ActionsTest");
    }

    private static void fillRecords(TaughtRemotes t) {
        for (int i = t.about(2); i < 40; i++) {
            Due.same("" + i, "" + t.enter(0, 0, i), "enter number " + i);
        }
    }

    private static void promise14() {
        TaughtRemotes t = new TaughtRemotes();
        Due.answers(0, "enter", () -> t.enter(3, 5, 4095));
        Due.answers(1, "enter 0", () -> t.enter(0, 0, 0));
        Due.answers(2, "enter again", () -> t.enter(3, 5, 7));
        Due.answers(7, "the code", () -> t.key(3, 5, 0));
        Due.answers(2, "its record", () -> t.key(3, 5, 1));
        Due.answers(4095, "the old record stays", () -> t.record(0, 3));
        Due.answers(Due.NONE, "no parent", () -> t.record(2, 0));
        Due.answers(3, "its house", () -> t.record(2, 1));
        Due.answers(5, "its key", () -> t.record(2, 2));
        Due.answers(Due.NONE, "no wrong bit", () -> t.record(2, 4));
        Due.refuses(Due.NO_PLACE, t, "enter(4, 0, 0)", () -> t.enter(4, 0, 0));
        Due.refuses(Due.NO_PLACE, t, "enter(-1, 0, 0)", () -> t.enter(-1, 0, 0));
        Due.refuses(Due.NO_PLACE, t, "enter(0, 6, 4096)", () -> t.enter(0, 6, 4096));
        Due.refuses(Due.NO_PLACE, t, "enter(0, -1, 0)", () -> t.enter(0, -1, 0));
        Due.refuses(Due.BAD_ARGUMENT, t, "enter(0, 0, -1)", () -> t.enter(0, 0, -1));
        Due.refuses(Due.BAD_ARGUMENT, t, "enter(0, 0, 4096)", () -> t.enter(0, 0, 4096));
        fillRecords(t);
        Due.refuses(Due.BAD_STATE, t, "enter with 40 records", () -> t.enter(0, 0, 0));
        Due.refuses(Due.BAD_ARGUMENT, t, "4096 with 40 records", () -> t.enter(0, 0, 4096));
        Due.refuses(Due.NO_PLACE, t, "house 4 with 40 records", () -> t.enter(4, 0, 4096));
        t.undo();
        Due.answers(39, "there is room after undo", () -> t.enter(1, 1, 1));
    }

    private static void promise15() {
        TaughtRemotes t = Due.street("R9k000100n3");
        Due.answers(100 ^ 32, "0 to 8", () -> t.teach(0, 0, 8, 5));
        Due.answers(68, "the code", () -> t.key(8, 5, 0));
        int[] want = {0, 8, 5, 68, 5};
        for (int what = 0; what < want.length; what++) {
            int asked = what;
            Due.answers(want[what], "the record's " + what, () -> t.record(1, asked));
        }
        Due.answers(100, "the code that taught stays", () -> t.key(0, 0, 0));
        Due.answers(68 ^ 512, "8 to 0", () -> t.teach(8, 5, 0, 0));
        Due.answers(2, "the teacher's own key has learned", () -> t.key(0, 0, 1));
        Due.answers(1, "its parent", () -> t.record(2, 0));
        // x goes on, also where no bit can be wrong.
        Due.answers(580, "0 to 0", () -> t.teach(0, 0, 0, 1));
        Due.answers(580 ^ 64, "the fourth x", () -> t.teach(0, 1, 3, 0));
    }

    /** From x = 1, r % 10 is 4, 3, 6, 0, 5, 5, 0, and a bit is wrong if it is less than the noise
     * times the distance. */
    private static void promise15noise() {
        int[][] first = {{1, 4, 0}, {1, 5, 32}, {2, 2, 0}, {2, 3, 32}, {3, 1, 0}, {3, 2, 32}, {0, 8, 0}};
        for (int[] row : first) {
            TaughtRemotes t = Due.street("R9k000000n" + row[0]);
            Due.answers(row[2], "noise " + row[0] + " to " + row[1], () -> t.teach(0, 0, row[1], 1));
            TaughtRemotes back = Due.street("R9k800000n" + row[0]);
            Due.answers(row[2], "noise " + row[0] + " back", () -> back.teach(8, 0, 8 - row[1], 1));
        }
        TaughtRemotes usual = Due.street("R9k000000");
        int[] bits = {32, 512, 1, 64, 32, 2048, 2, 128, 0, 8, 128};
        for (int bit : bits) {
            Due.answers(bit, "noise 1 over 8", () -> usual.teach(0, 0, 8, 0));
        }
        TaughtRemotes near = Due.street("R2k000000");
        int[] nearBits = {0, 0, 0, 64, 0, 0, 2, 0, 0, 0, 0, 0, 0, 64, 0};
        for (int bit : nearBits) {
            Due.answers(bit, "noise 1 over 1", () -> near.teach(0, 0, 1, 0));
        }
    }

    private static void promise15refuses() {
        TaughtRemotes t = Due.street("R4k000001");
        Due.refuses(Due.NO_PLACE, t, "teach(4, 0, 0, 1)", () -> t.teach(4, 0, 0, 1));
        Due.refuses(Due.NO_PLACE, t, "teach(0, 6, 0, 1)", () -> t.teach(0, 6, 0, 1));
        Due.refuses(Due.NO_PLACE, t, "teach(0, 0, 4, 1)", () -> t.teach(0, 0, 4, 1));
        Due.refuses(Due.NO_PLACE, t, "teach(0, 0, -1, 1)", () -> t.teach(0, 0, -1, 1));
        Due.refuses(Due.NO_PLACE, t, "teach(0, 0, 0, 6)", () -> t.teach(0, 0, 0, 6));
        Due.refuses(Due.NO_PLACE, t, "teach(4, 0, 4, 0)", () -> t.teach(4, 0, 4, 0));
        Due.refuses(Due.BAD_ARGUMENT, t, "teach(0, 0, 0, 0)", () -> t.teach(0, 0, 0, 0));
        Due.refuses(Due.BAD_ARGUMENT, t, "teach(1, 0, 1, 0), no code", () -> t.teach(1, 0, 1, 0));
        Due.refuses(Due.BAD_STATE, t, "teach(1, 0, 0, 0), no code", () -> t.teach(1, 0, 0, 0));
        Due.answers(1, "the same key of another house", () -> t.teach(0, 0, 1, 0));
        Due.answers(1, "another key of the same house", () -> t.teach(0, 0, 0, 1));
        fillRecords(t);
        Due.refuses(Due.BAD_STATE, t, "teach with 40 records", () -> t.teach(0, 0, 1, 0));
        Due.refuses(Due.BAD_ARGUMENT, t, "itself with 40 records", () -> t.teach(0, 0, 0, 0));
        Due.refuses(Due.NO_PLACE, t, "house 4 with 40 records", () -> t.teach(0, 0, 4, 0));
    }

    private static void promise16() {
        TaughtRemotes t = Due.street("R4k000001k100000");
        Due.answers(1, "erase", () -> t.erase(0, 0));
        Due.answers(Due.NONE, "no code then", () -> t.key(0, 0, 0));
        Due.answers(2, "the records stay", () -> t.about(2));
        Due.answers(0, "no key has it", () -> t.record(0, 6));
        Due.answers(Due.NONE, "erase again", () -> t.erase(0, 0));
        Due.answers(0, "erase the code 0", () -> t.erase(1, 0));
        Due.answers(2, "all three were actions", t::undo);
        Due.answers(1, "all three were actions", t::undo);
        Due.answers(0, "all three were actions", t::undo);
        Due.answers(1, "the code is back", () -> t.key(0, 0, 0));
        Due.refuses(Due.NO_PLACE, t, "erase(4, 0)", () -> t.erase(4, 0));
        Due.refuses(Due.NO_PLACE, t, "erase(0, 6)", () -> t.erase(0, 6));
        Due.refuses(Due.NO_PLACE, t, "erase(-1, 0)", () -> t.erase(-1, 0));
        Due.refuses(Due.NO_PLACE, t, "erase(0, -1)", () -> t.erase(0, -1));
    }

    private static void promise17() {
        TaughtRemotes t = Due.street("R9k000007k400007d000070d100042d200073d300071k014095");
        Due.answers(0b0111, "press", () -> t.press(0, 0));
        Due.answers(0b0111, "they are on", () -> t.about(7));
        Due.answers(1, "device 1 is on", () -> t.device(1, 3));
        Due.answers(0, "device 3 is off", () -> t.device(3, 3));
        Due.answers(0b1100, "press elsewhere", () -> t.press(4, 0));
        Due.answers(0b1011, "the other way about", () -> t.about(7));
        Due.answers(0, "nobody accepts it", () -> t.press(0, 1));
        Due.answers(0b1011, "nothing is switched", () -> t.about(7));
        Due.answers(2, "but it was an action", t::undo);
        Due.answers(0b0111, "press again", () -> t.press(0, 0));
        Due.answers(0b1100, "after that", () -> t.about(7));
        Due.refuses(Due.NO_PLACE, t, "press(9, 0)", () -> t.press(9, 0));
        Due.refuses(Due.NO_PLACE, t, "press(0, 6)", () -> t.press(0, 6));
        Due.refuses(Due.NO_PLACE, t, "press(-9, 0)", () -> t.press(Due.NONE, 0));
        Due.refuses(Due.BAD_STATE, t, "press(1, 0)", () -> t.press(1, 0));
        t.erase(0, 0);
        Due.refuses(Due.BAD_STATE, t, "press of an erased one", () -> t.press(0, 0));
    }

    private static void promise18() {
        TaughtRemotes t = Due.street("R3d000000");
        Due.answers(1, "addDevice", () -> t.addDevice(2, 4095, 3));
        int[] want = {2, 4095, 3, 0, 0};
        for (int what = 0; what < want.length; what++) {
            int asked = what;
            Due.answers(want[what], "its " + what, () -> t.device(1, asked));
        }
        Due.refuses(Due.NO_PLACE, t, "house 3", () -> t.addDevice(3, 0, 0));
        Due.refuses(Due.NO_PLACE, t, "house -1", () -> t.addDevice(-1, 4096, 4));
        Due.refuses(Due.BAD_ARGUMENT, t, "code -1", () -> t.addDevice(0, -1, 0));
        Due.refuses(Due.BAD_ARGUMENT, t, "code 4096", () -> t.addDevice(0, 4096, 0));
        Due.refuses(Due.BAD_ARGUMENT, t, "tolerance -1", () -> t.addDevice(0, 0, -1));
        Due.refuses(Due.BAD_ARGUMENT, t, "tolerance 4", () -> t.addDevice(0, 0, 4));
        for (int d = 2; d < 6; d++) {
            Due.same("" + d, "" + t.addDevice(0, 0, 0), "device " + d);
        }
        Due.refuses(Due.BAD_STATE, t, "device 6", () -> t.addDevice(0, 0, 0));
        Due.refuses(Due.BAD_ARGUMENT, t, "device 6 of tolerance 4", () -> t.addDevice(0, 0, 4));
        Due.refuses(Due.NO_PLACE, t, "device 6 in house 3", () -> t.addDevice(3, 0, 4));
        // A device that is on when it is taken back is off when it is added anew.
        t.enter(0, 0, 0);
        t.press(0, 0);
        t.undo();
        t.undo();
        t.undo();
        Due.answers(5, "added anew", () -> t.addDevice(0, 0, 0));
        Due.answers(0, "off", () -> t.device(5, 3));
    }

    private static void promise19() {
        TaughtRemotes t = Due.street("R3d000002d100001k000003");
        Due.answers(2, "setTolerance", () -> t.setTolerance(0, 0));
        Due.answers(0, "and back", () -> t.setTolerance(0, 3));
        Due.answers(3, "the same again", () -> t.setTolerance(0, 3));
        Due.answers(3, "it is so", () -> t.device(0, 2));
        Due.answers(1, "the other one is not", () -> t.device(1, 2));
        Due.answers(1, "it accepts so", () -> t.accepted(0, 0));
        Due.answers(2, "three actions", t::undo);
        Due.refuses(Due.NO_PLACE, t, "device 2", () -> t.setTolerance(2, 0));
        Due.refuses(Due.NO_PLACE, t, "device -1", () -> t.setTolerance(-1, 4));
        Due.refuses(Due.NO_PLACE, t, "device 2, tolerance 4", () -> t.setTolerance(2, 4));
        Due.refuses(Due.BAD_ARGUMENT, t, "tolerance 4", () -> t.setTolerance(0, 4));
        Due.refuses(Due.BAD_ARGUMENT, t, "tolerance -1", () -> t.setTolerance(0, -1));
    }

    private static void promise20() {
        TaughtRemotes t = new TaughtRemotes();
        Due.answers(1, "the noise was 1", () -> t.set(0, 3));
        Due.answers(3, "the noise was 3", () -> t.set(0, 0));
        Due.answers(0, "the noise was 0", () -> t.set(0, 0));
        Due.answers(2, "the reach was 2", () -> t.set(1, 8));
        Due.answers(8, "the reach was 8", () -> t.set(1, 0));
        Due.answers(0, "the reach was 0", () -> t.set(1, 5));
        Due.answers(0, "the noise is", () -> t.about(3));
        Due.answers(5, "the reach is", () -> t.about(4));
        Due.answers(5, "six actions", t::undo);
        Due.refuses(Due.BAD_ARGUMENT, t, "set(-1, 0)", () -> t.set(-1, 0));
        Due.refuses(Due.BAD_ARGUMENT, t, "set(2, 0)", () -> t.set(2, 0));
        Due.refuses(Due.BAD_ARGUMENT, t, "set(0, -1)", () -> t.set(0, -1));
        Due.refuses(Due.BAD_ARGUMENT, t, "set(0, 4)", () -> t.set(0, 4));
        Due.refuses(Due.BAD_ARGUMENT, t, "set(1, -1)", () -> t.set(1, -1));
        Due.refuses(Due.BAD_ARGUMENT, t, "set(1, 9)", () -> t.set(1, 9));
    }

    private static void promise21() {
        TaughtRemotes t = new TaughtRemotes();
        Due.refuses(Due.BAD_STATE, t, "undo of nothing", t::undo);
        for (int i = 0; i < 20; i++) {
            t.enter(0, 0, i);
        }
        for (int left = 13; left >= 0; left--) {
            Due.answers(left, "undo, " + left + " left", t::undo);
            Due.answers(left + 5, "the code then", () -> t.key(0, 0, 0));
        }
        Due.refuses(Due.BAD_STATE, t, "undo of the forgotten", t::undo);
        Due.answers(6, "records", () -> t.about(2));
        // Full once more, and not only from the first place on.
        int[] left = {3, 6, 9, 12, 13, 13};
        for (int want : left) {
            for (int i = 0; i < 4; i++) {
                t.set(1, i);
            }
            Due.answers(want, "undo of one of four", t::undo);
            Due.answers(2, "the reach then", () -> t.about(4));
        }
    }

    private static TaughtRemotes pressedFamily() {
        TaughtRemotes t = Due.street("R9k000000d000003d100000n3");
        t.teach(0, 0, 8, 0);
        t.press(0, 0);
        return t;
    }

    private static void promise21eachAction() {
        Bounds.Ask[] actions = {
            t -> t.enter(1, 2, 3), t -> t.teach(8, 0, 0, 0), t -> t.teach(0, 0, 0, 1),
            t -> t.erase(0, 0), t -> t.erase(5, 5), t -> t.press(0, 0), t -> t.press(8, 0),
            t -> t.addDevice(3, 3, 3), t -> t.setTolerance(1, 1), t -> t.setTolerance(1, 0),
            t -> t.set(0, 2), t -> t.set(1, 8), t -> t.set(1, 2)};
        for (int i = 0; i < actions.length; i++) {
            TaughtRemotes t = pressedFamily();
            String before = Due.seen(t);
            actions[i].of(t);
            Due.answers(2, "undo of action " + i, t::undo);
            Due.same(before, Due.seen(t), "all as before action " + i);
        }
        TaughtRemotes t = pressedFamily();
        // x comes back, too: the same is learned again.
        int learned = t.teach(8, 0, 3, 3);
        t.teach(8, 0, 3, 3);
        t.undo();
        t.undo();
        Due.answers(learned, "the same is learned", () -> t.teach(8, 0, 3, 3));
        // undo is no action: two of them go two states back.
        TaughtRemotes twice = new TaughtRemotes();
        twice.set(1, 3);
        twice.set(1, 4);
        twice.undo();
        Due.answers(0, "undo of the first", twice::undo);
        Due.answers(2, "the reach at first", () -> twice.about(4));
    }

    /** Calls that throw and calls that only tell are not remembered. */
    private static void promise21refusedCalls() {
        TaughtRemotes t = Due.street("R4k000000d000000");
        t.set(1, 3);
        Due.Call[] refused = {
            () -> t.enter(0, 0, 4096), () -> t.teach(0, 0, 0, 0), () -> t.erase(4, 0),
            () -> t.press(1, 1), () -> t.addDevice(0, 0, 4), () -> t.setTolerance(0, 4),
            () -> t.set(2, 0), () -> t.restore(0)};
        for (Due.Call call : refused) {
            try {
                call.answer();
                Due.same("an exception", "none", "a refused call");
            } catch (IndexOutOfBoundsException | IllegalArgumentException | IllegalStateException e) {
                // That is due.
            }
        }
        t.wouldBe(0, 0, 1);
        t.handed(0, 0, 3);
        t.bestTeacher(1, 0);
        t.leastTolerance(0);
        t.runScript(3, 100012000030000L);
        t.simulate(0, 0, 1, 60);
        t.save(0);
        t.append('R');
        t.clearText();
        Due.answers(0, "only set is remembered", t::undo);
        Due.answers(2, "and taken back", () -> t.about(4));
    }
}
