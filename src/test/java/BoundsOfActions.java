/** Boundary cases of the promises 14 to 21, and of what the terms say of actions and undo. */
final class BoundsOfActions {
    private static final String TERMS = "Terms";

    private BoundsOfActions() {
    }

    static void run() {
        terms();
        promise14();
        promise15();
        promises16and17();
        promise18();
        promises19and20();
        promise21();
    }

    private static void terms() {
        Bounds.sentence(TERMS, "change the state, which consists of everything but the text and the "
                + "save slots.", BoundsOfActions::textAndSlotsAreNotUndone);
        Bounds.sentence(TERMS, "Each call of one of them that does not throw an exception is an "
                + "action, also if nothing becomes different", BoundsOfActions::nothingDifferent);
        Bounds.sentence(TERMS, "(undo is none)", BoundsOfActions::undoIsNoAction);
        Bounds.sentence(TERMS, "Before each action, the state is remembered.",
                BoundsOfActions::eachActionIsTakenBack);
        Bounds.sentence(TERMS, "At most 14 states are remembered", BoundsOfActions::upTo14States);
        Bounds.sentence(TERMS, "when one more is remembered, the oldest one is forgotten.",
                BoundsOfActions::theOldestIsForgotten);
        Bounds.sentence(TERMS, "load and restore are not actions.",
                BoundsOfActions::loadAndRestoreAreNone);
    }

    private static void promise14() {
        Bounds.sentence("Promise 14", "Enters a code by hand; a record without a parent is made.",
                BoundsOfActions::enteredOverACode);
        Bounds.sentence("Promise 14", "code: 0 to 4095", BoundsOfActions::leastAndGreatestEntered);
        Bounds.sentence("Promise 14", "Returns the number of the record.",
                BoundsOfActions::recordsFrom0To39);
        Bounds.sentence("Promise 14", "Throws IndexOutOfBoundsException if there is no such house "
                + "or key", () -> BoundsOfWhatThereIs.refusesKeys((t, h, k) -> t.enter(h, k, 0)));
        Bounds.sentence("Promise 14", "Throws IllegalArgumentException if code is out of range",
                () -> refusesCodes((t, code) -> t.enter(0, 0, code)));
        Bounds.sentence("Promise 14", "Throws IllegalStateException if there are 40 records",
                BoundsOfActions::enterWith40Records);
    }

    private static void promise15() {
        Bounds.sentence("Promise 15", "learn: its key (another one than that which teaches)",
                BoundsOfActions::nearlyTheSameKey);
        Bounds.sentence("Promise 15", "Returns the code that is learned.",
                BoundsOfActions::leastAndGreatestLearned);
        Bounds.sentence("Promise 15", "Throws IndexOutOfBoundsException if there is no such house "
                + "or key", BoundsOfActions::noSuchTeacherOrLearner);
        Bounds.sentence("Promise 15", "Throws IllegalArgumentException if it is the same key of "
                + "the same house", BoundsOfActions::theSameKey);
        Bounds.sentence("Promise 15", "Throws IllegalStateException if the key that teaches has no "
                + "code", BoundsOfActions::teacherWithoutACode);
        Bounds.sentence("Promise 15", "or there are 40 records",
                BoundsOfActions::teachWith40Records);
    }

    private static void promises16and17() {
        Bounds.sentence("Promise 16", "Takes the code of a key away.",
                BoundsOfActions::theOtherKeysKeepTheirs);
        Bounds.sentence("Promise 16", "Returns the code that it had; NONE if it had none.",
                BoundsOfActions::erasedCodes);
        Bounds.sentence("Promise 16", "Throws IndexOutOfBoundsException if there is no such house "
                + "or key", () -> BoundsOfWhatThereIs.refusesKeys((t, h, k) -> t.erase(h, k)));
        Bounds.sentence("Promise 17", "Returns the devices that accept it, bit d set for the device "
                + "d.", BoundsOfActions::fromNoneToAllSwitched);
        Bounds.sentence("Promise 17", "Throws IndexOutOfBoundsException if there is no such house "
                + "or key", () -> BoundsOfWhatThereIs.refusesKeys((t, h, k) -> t.press(h, k)));
        Bounds.sentence("Promise 17", "Throws IllegalStateException if the key has no code",
                BoundsOfActions::pressWithoutACode);
    }

    private static void promise18() {
        Bounds.sentence("Promise 18", "code: 0 to 4095", BoundsOfActions::codesOfDevices);
        Bounds.sentence("Promise 18", "tolerance: 0 to 3", BoundsOfActions::tolerancesOfDevices);
        Bounds.sentence("Promise 18", "Returns its number.", BoundsOfActions::devicesFrom0To5);
        Bounds.sentence("Promise 18", "Throws IndexOutOfBoundsException if there is no such house",
                () -> BoundsOfWouldBe.refusesHouses((t, h) -> t.addDevice(h, 0, 0)));
        Bounds.sentence("Promise 18", "Throws IllegalArgumentException if code or tolerance is out "
                + "of range", BoundsOfActions::noSuchDevices);
        Bounds.sentence("Promise 18", "Throws IllegalStateException if there are 6 devices",
                BoundsOfActions::addWith6Devices);
    }

    private static void promises19and20() {
        Bounds.sentence("Promise 19", "tolerance: 0 to 3", BoundsOfActions::setTolerances);
        Bounds.sentence("Promise 19", "Returns the previous one.",
                BoundsOfActions::previousTolerances);
        Bounds.sentence("Promise 19", "Throws IndexOutOfBoundsException if there is no such device",
                () -> BoundsOfWhatThereIs.refusesDevices((t, d) -> t.setTolerance(d, 3)));
        Bounds.sentence("Promise 19", "Throws IllegalArgumentException if tolerance is out of range",
                BoundsOfActions::noTolerances);
        Bounds.sentence("Promise 20", "what: 0: the noise; 1: the reach",
                BoundsOfActions::eitherSetting);
        Bounds.sentence("Promise 20", "v: 0 to 3 for the noise, 0 to 8 for the reach",
                BoundsOfActions::leastAndGreatestSettings);
        Bounds.sentence("Promise 20", "Returns the previous one.",
                BoundsOfActions::previousSettings);
        Bounds.sentence("Promise 20", "Throws IllegalArgumentException if what or v is out of range",
                BoundsOfActions::noSettings);
    }

    private static void promise21() {
        Bounds.sentence("Promise 21", "Takes back the last action that is remembered.",
                BoundsOfActions::theLastComesFirst);
        Bounds.sentence("Promise 21", "Returns how many states are still remembered.",
                BoundsOfActions::from13To0);
        Bounds.sentence("Promise 21", "Throws IllegalStateException if none is remembered",
                BoundsOfActions::noneRemembered);
    }

    /** -1 and 4096, some that are far outside, and that both ends are taken. */
    private static void refusesCodes(BoundsOfWhatThereIs.AskOne ask) {
        for (int code : new int[] {-1, 4096, -4096, 8191}) {
            Bounds.refused(Due.BAD_ARGUMENT, Bounds::busy, "code " + code, t -> ask.of(t, code));
        }
        for (int far : Bounds.FAR) {
            Bounds.refused(Due.BAD_ARGUMENT, Bounds::busy, "code " + far, t -> ask.of(t, far));
        }
        for (int code : new int[] {0, 4095}) {
            String got = Bounds.outcome(Bounds.busy(), t -> ask.of(t, code));
            Due.same("false", "" + got.endsWith("Exception"), "code " + code);
        }
    }

    private static void refusesTolerances(BoundsOfWhatThereIs.AskOne ask) {
        for (int v : new int[] {-1, 4, -4, 259}) {
            Bounds.refused(Due.BAD_ARGUMENT, Bounds::busy, "tolerance " + v, t -> ask.of(t, v));
        }
        for (int far : Bounds.FAR) {
            Bounds.refused(Due.BAD_ARGUMENT, Bounds::busy, "tolerance " + far,
                    t -> ask.of(t, far));
        }
        for (int v = 0; v <= 3; v++) {
            int tolerance = v;
            String got = Bounds.outcome(Bounds.busy(), t -> ask.of(t, tolerance));
            Due.same("false", "" + got.endsWith("Exception"), "tolerance " + v);
        }
    }

    private static void nothingToUndo(TaughtRemotes t, String what) {
        Due.same(Due.BAD_STATE.getName(), Bounds.outcome(t, s -> s.undo()), what);
    }

    // ---- what the terms say of actions and undo

    private static void textAndSlotsAreNotUndone() {
        TaughtRemotes t = new TaughtRemotes();
        t.enter(0, 0, 7);
        t.append('R');
        t.append('2');
        t.save(1);
        Due.answers(0, "undo", t::undo);
        Due.answers(Due.NONE, "the text is there", t::errorPosition);
        Due.answers(1, "the slot is there", () -> t.restore(1));
        Due.answers(7, "with what was saved", () -> t.key(0, 0, 0));
        TaughtRemotes emptied = Due.street("R2");
        emptied.set(1, 5);
        emptied.clearText();
        emptied.undo();
        Due.answers(0, "an emptied text stays so", emptied::errorPosition);
        nothingToUndo(emptied, "clearText is no action");
    }

    private static void nothingDifferent() {
        Bounds.Ask[] actions = {
            t -> t.erase(1, 0), t -> t.press(1, 1), t -> t.set(0, 1), t -> t.set(1, 2),
            t -> t.setTolerance(0, 3), t -> t.enter(0, 0, 5), t -> t.teach(0, 0, 0, 1),
            t -> t.addDevice(0, 0, 3)};
        for (int i = 0; i < actions.length; i++) {
            TaughtRemotes t = Due.street("R4k000005k010005k114095d000003");
            String first = Bounds.outcome(t, actions[i]);
            Due.same("false", "" + first.endsWith("Exception"), "action " + i);
            Bounds.outcome(t, actions[i]);
            Due.answers(1, "undo of action " + i, t::undo);
            Due.answers(0, "undo of action " + i + " once more", t::undo);
            nothingToUndo(t, "undo a third time");
        }
    }

    private static void undoIsNoAction() {
        TaughtRemotes t = new TaughtRemotes();
        t.set(1, 3);
        t.set(1, 4);
        Due.answers(1, "undo of the second", t::undo);
        Due.answers(0, "undo of the first", t::undo);
        Due.answers(2, "the reach at first", () -> t.about(4));
        nothingToUndo(t, "no undo is remembered");
    }

    /** Each action, with what it changes: all is as before when it is taken back, x as well. */
    private static void eachActionIsTakenBack() {
        Bounds.Ask[] actions = {
            t -> t.enter(1, 2, 3), t -> t.enter(0, 0, 0), t -> t.teach(3, 0, 0, 0),
            t -> t.teach(0, 0, 0, 4), t -> t.erase(0, 0), t -> t.erase(1, 0), t -> t.press(0, 0),
            t -> t.press(2, 2), t -> t.addDevice(3, 3, 3), t -> t.setTolerance(1, 0),
            t -> t.setTolerance(1, 2), t -> t.set(0, 0), t -> t.set(0, 3), t -> t.set(1, 8)};
        for (int i = 0; i < actions.length; i++) {
            TaughtRemotes t = Bounds.busy();
            String first = Bounds.outcome(t, actions[i]);
            Due.same("false", "" + first.endsWith("Exception"), "action " + i);
            Due.answers(9, "undo of action " + i, t::undo);
            Due.same(Bounds.all(Bounds.busy()), Bounds.all(t), "all as before action " + i);
        }
    }

    /** So many actions, each of them changing the reach: n can be taken back, no more. */
    private static void undoesAll(int actions, int want) {
        TaughtRemotes t = new TaughtRemotes();
        for (int i = 1; i <= actions; i++) {
            t.set(1, i % 9);
        }
        for (int left = want - 1; left >= 0; left--) {
            int action = actions - want + left;
            Due.answers(left, "undo, " + actions + " actions", t::undo);
            Due.answers(action == 0 ? 2 : action % 9, "the reach then", () -> t.about(4));
        }
        nothingToUndo(t, "undo after " + want);
    }

    private static void upTo14States() {
        for (int actions = 0; actions <= 14; actions++) {
            undoesAll(actions, actions);
        }
    }

    private static void theOldestIsForgotten() {
        for (int actions = 15; actions <= 60; actions++) {
            undoesAll(actions, 14);
        }
        // Not only where all fourteen are there: undone ones make room again.
        TaughtRemotes t = new TaughtRemotes();
        for (int i = 0; i < 20; i++) {
            t.set(1, 1);
        }
        for (int i = 0; i < 5; i++) {
            t.undo();
        }
        for (int i = 0; i < 6; i++) {
            t.set(1, i);
        }
        Due.answers(13, "nine and six are fifteen", t::undo);
        Due.answers(4, "the reach then", () -> t.about(4));
    }

    private static void loadAndRestoreAreNone() {
        TaughtRemotes loaded = Due.street("R2");
        nothingToUndo(loaded, "undo after load");
        loaded.set(1, 5);
        loaded.save(0);
        loaded.restore(0);
        nothingToUndo(loaded, "undo after restore");
        loaded.set(1, 6);
        Due.answers(0, "undo of what came after restore", loaded::undo);
        Due.answers(5, "the reach that was restored", () -> loaded.about(4));
        nothingToUndo(loaded, "restore itself is not taken back");
    }

    // ---- promise 14

    private static void enteredOverACode() {
        TaughtRemotes t = Bounds.chainOf(2, 3);
        Due.answers(2, "entered where one was learned", () -> t.enter(8, 0, 7));
        Due.answers(7, "its code", () -> t.key(8, 0, 0));
        Due.answers(0, "its generation", () -> t.key(8, 0, 2));
        Due.answers(Due.NONE, "its parent", () -> t.record(2, 0));
        Due.answers(Due.NONE, "its wrong bit", () -> t.record(2, 4));
        Due.answers(3, "the same code again", () -> t.enter(8, 0, 7));
    }

    private static void leastAndGreatestEntered() {
        for (int code : new int[] {0, 1, 2048, 4094, 4095}) {
            TaughtRemotes t = new TaughtRemotes();
            Due.answers(0, "enter " + code, () -> t.enter(3, 5, code));
            Due.answers(code, "the code of the key", () -> t.key(3, 5, 0));
            Due.answers(code, "the code of the record", () -> t.record(0, 3));
        }
    }

    private static void recordsFrom0To39() {
        TaughtRemotes t = new TaughtRemotes();
        for (int i = 0; i < 40; i++) {
            int key = i;
            Due.answers(i, "the number of record " + i, () -> t.enter(key % 4, key % 6, key));
        }
    }

    private static void enterWith40Records() {
        Due.answers(39, "with 39 records", () -> Bounds.busyWithRecords(39).enter(1, 1, 0));
        Bounds.refused(Due.BAD_STATE, Bounds::fullOfRecords, "with 40", t -> t.enter(1, 1, 0));
        Bounds.refused(Due.BAD_STATE, Bounds::fullOfRecords, "over a code with 40",
                t -> t.enter(0, 0, 4095));
        Bounds.refused(Due.BAD_ARGUMENT, Bounds::fullOfRecords, "4096 with 40",
                t -> t.enter(0, 0, 4096));
        Bounds.refused(Due.NO_PLACE, Bounds::fullOfRecords, "key 6 with 40",
                t -> t.enter(0, 6, 0));
        Bounds.refused(Due.NO_PLACE, Bounds::busy, "house 4, code -1", t -> t.enter(4, 0, -1));
        TaughtRemotes undone = Bounds.fullOfRecords();
        undone.undo();
        Due.answers(39, "with one taken back", () -> undone.enter(1, 1, 0));
        TaughtRemotes erased = Bounds.fullOfRecords();
        erased.erase(0, 5);
        Due.same(Due.BAD_STATE.getName(), Bounds.outcome(erased, t -> t.enter(0, 5, 0)),
                "erase makes no room");
    }

    // ---- promise 15

    private static void nearlyTheSameKey() {
        Due.answers(7, "the key beside it", () -> Due.street("R2k000007").teach(0, 0, 0, 1));
        Due.answers(7, "the key at the other end", () -> Due.street("R2k000007").teach(0, 0, 0, 5));
        Due.answers(7, "the same key of the next house",
                () -> Due.street("R2k000007n0").teach(0, 0, 1, 0));
    }

    private static void leastAndGreatestLearned() {
        Due.answers(0, "the least, learned well", () -> Due.street("R9k000000n0").teach(0, 0, 8, 5));
        Due.answers(4095, "the greatest, learned well",
                () -> Due.street("R9k004095n0").teach(0, 0, 8, 5));
        Due.answers(0, "down to the least", () -> Due.street("R9k000032").teach(0, 0, 8, 5));
        Due.answers(4095, "up to the greatest", () -> Due.street("R9k004063").teach(0, 0, 8, 5));
    }

    private static void noSuchTeacherOrLearner() {
        BoundsOfWhatThereIs.refusesKeys((t, h, k) -> t.teach(h, k, 1, 1));
        BoundsOfWhatThereIs.refusesKeys((t, h, k) -> t.teach(0, 1, h, k));
        BoundsOfWhatThereIs.refusesKeys((t, h, k) -> t.teach(h, k, h, k));
        Bounds.refused(Due.NO_PLACE, Bounds::busy, "no learner, a teacher without a code",
                t -> t.teach(1, 0, 4, 0));
        Bounds.refused(Due.NO_PLACE, Bounds::fullOfRecords, "no learner with 40 records",
                t -> t.teach(0, 0, 0, 6));
    }

    private static void theSameKey() {
        Bounds.refused(Due.BAD_ARGUMENT, Bounds::busy, "a key with a code",
                t -> t.teach(0, 0, 0, 0));
        Bounds.refused(Due.BAD_ARGUMENT, Bounds::busy, "the last key", t -> t.teach(3, 5, 3, 5));
        Bounds.refused(Due.BAD_ARGUMENT, Bounds::busy, "a key without a code",
                t -> t.teach(1, 0, 1, 0));
        Bounds.refused(Due.BAD_ARGUMENT, Bounds::fullOfRecords, "with 40 records",
                t -> t.teach(0, 0, 0, 0));
        Bounds.refused(Due.NO_PLACE, Bounds::busy, "a key that does not exist",
                t -> t.teach(0, 6, 0, 6));
        Bounds.refused(Due.NO_PLACE, Bounds::busy, "in a house that does not exist",
                t -> t.teach(4, 0, 4, 0));
    }

    private static void teacherWithoutACode() {
        Bounds.refused(Due.BAD_STATE, Bounds::busy, "never had one", t -> t.teach(1, 0, 0, 0));
        Bounds.refused(Due.BAD_STATE, Bounds::busy, "erased", t -> t.teach(1, 1, 0, 0));
        Bounds.refused(Due.BAD_STATE, Bounds::untouched, "of a new object",
                t -> t.teach(0, 0, 3, 5));
        Bounds.refused(Due.BAD_STATE, Bounds::fullOfRecords, "with 40 records",
                t -> t.teach(1, 0, 0, 0));
        String got = Bounds.outcome(Bounds.busy(), t -> t.teach(0, 0, 1, 0));
        Due.same("false", "" + got.endsWith("Exception"), "only the learner has none");
    }

    private static void teachWith40Records() {
        TaughtRemotes t = Bounds.busyWithRecords(39);
        String got = Bounds.outcome(t, s -> s.teach(0, 0, 1, 0));
        Due.same("false", "" + got.endsWith("Exception"), "with 39 records");
        Due.answers(39, "the record 39", () -> t.key(1, 0, 1));
        Bounds.refused(Due.BAD_STATE, Bounds::fullOfRecords, "with 40", s -> s.teach(0, 0, 1, 0));
        TaughtRemotes undone = Bounds.fullOfRecords();
        undone.undo();
        got = Bounds.outcome(undone, s -> s.teach(0, 0, 1, 0));
        Due.same("false", "" + got.endsWith("Exception"), "with one taken back");
    }

    // ---- promises 16 and 17

    private static void theOtherKeysKeepTheirs() {
        TaughtRemotes t = Due.street("R2");
        for (int i = 0; i < 12; i++) {
            t.enter(i / 6, i % 6, i);
        }
        t.erase(0, 5);
        t.erase(1, 0);
        for (int i = 0; i < 12; i++) {
            int key = i;
            Due.answers(i == 5 || i == 6 ? Due.NONE : i, "key " + i,
                    () -> t.key(key / 6, key % 6, 0));
        }
        Due.answers(12, "the records stay", () -> t.about(2));
        TaughtRemotes chain = Bounds.chainOf(3, 3);
        chain.erase(8, 0);
        Due.answers(1, "a chain goes on through it", () -> chain.trace(0, 0, 1));
    }

    private static void erasedCodes() {
        TaughtRemotes t = Due.street("R9k000000k854095");
        Due.answers(0, "the least code", () -> t.erase(0, 0));
        Due.answers(4095, "the greatest code", () -> t.erase(8, 5));
        Due.answers(Due.NONE, "erased before", () -> t.erase(0, 0));
        Due.answers(Due.NONE, "never had one", () -> t.erase(4, 4));
        Due.answers(3, "they were actions", t::undo);
    }

    private static void fromNoneToAllSwitched() {
        Due.answers(0, "no devices", () -> Due.street("R2k000000").press(0, 0));
        Due.answers(0, "none that is near", () -> Due.street("R2k000000d040953").press(0, 0));
        TaughtRemotes t = Due.street("R9k000000k010001d000000d000000d000000d000000d000000d000010");
        Due.answers(0b011111, "all but the last", () -> t.press(0, 0));
        Due.answers(0b100000, "the last alone", () -> t.press(0, 1));
        Due.answers(63, "all are on", () -> t.about(7));
        t.setTolerance(5, 1);
        Due.answers(63, "all six", () -> t.press(0, 0));
        Due.answers(0, "all are off", () -> t.about(7));
    }

    private static void pressWithoutACode() {
        Bounds.refused(Due.BAD_STATE, Bounds::busy, "never had one", t -> t.press(1, 0));
        Bounds.refused(Due.BAD_STATE, Bounds::busy, "erased", t -> t.press(1, 1));
        Bounds.refused(Due.BAD_STATE, Bounds::untouched, "of a new object", t -> t.press(3, 5));
        Bounds.refused(Due.NO_PLACE, Bounds::untouched, "no such key", t -> t.press(3, 6));
        Due.answers(0, "the code 0 is one", () -> Due.street("R2k000000").press(0, 0));
    }

    // ---- promise 18

    private static void codesOfDevices() {
        for (int code : new int[] {0, 1, 2048, 4094, 4095}) {
            TaughtRemotes t = new TaughtRemotes();
            Due.answers(0, "add " + code, () -> t.addDevice(3, code, 0));
            Due.answers(code, "the code", () -> t.device(0, 1));
        }
    }

    private static void tolerancesOfDevices() {
        for (int v = 0; v <= 3; v++) {
            int tolerance = v;
            TaughtRemotes t = new TaughtRemotes();
            Due.answers(0, "add with " + v, () -> t.addDevice(3, 0, tolerance));
            Due.answers(v, "the tolerance", () -> t.device(0, 2));
        }
    }

    private static void devicesFrom0To5() {
        TaughtRemotes t = new TaughtRemotes();
        for (int d = 0; d < 6; d++) {
            int device = d;
            Due.answers(d, "the number", () -> t.addDevice(device % 4, device, 0));
        }
        Due.answers(4, "behind those of a text",
                () -> Due.street("R2d000000d000000d000000d000000").addDevice(1, 1, 1));
    }

    private static void noSuchDevices() {
        refusesCodes((t, code) -> t.addDevice(0, code, 0));
        refusesTolerances((t, tolerance) -> t.addDevice(0, 0, tolerance));
        Bounds.refused(Due.BAD_ARGUMENT, Bounds::busy, "both", t -> t.addDevice(0, 4096, 4));
        Bounds.refused(Due.NO_PLACE, Bounds::busy, "house 4, both", t -> t.addDevice(4, 4096, 4));
    }

    private static void addWith6Devices() {
        Due.answers(5, "with 5", () -> {
            TaughtRemotes t = Bounds.busy();
            t.addDevice(0, 0, 0);
            return t.addDevice(0, 0, 0);
        });
        Bounds.refused(Due.BAD_STATE, Bounds::fullOfDevices, "with 6", t -> t.addDevice(0, 0, 0));
        Bounds.refused(Due.BAD_ARGUMENT, Bounds::fullOfDevices, "code 4096 with 6",
                t -> t.addDevice(0, 4096, 0));
        Bounds.refused(Due.BAD_ARGUMENT, Bounds::fullOfDevices, "tolerance 4 with 6",
                t -> t.addDevice(0, 0, 4));
        Bounds.refused(Due.NO_PLACE, Bounds::fullOfDevices, "house 4 with 6",
                t -> t.addDevice(4, 0, 0));
        TaughtRemotes undone = Bounds.fullOfDevices();
        undone.undo();
        Due.answers(5, "with one taken back", () -> undone.addDevice(0, 0, 0));
    }

    // ---- promises 19 and 20

    private static void setTolerances() {
        TaughtRemotes t = Due.street("R2d000002d000001");
        int before = 1;
        for (int v : new int[] {0, 3, 1, 2, 2}) {
            int was = before;
            Due.answers(was, "set to " + v, () -> t.setTolerance(1, v));
            Due.answers(v, "it is", () -> t.device(1, 2));
            Due.answers(2, "the other one's", () -> t.device(0, 2));
            before = v;
        }
    }

    private static void previousTolerances() {
        Due.answers(0, "the least", () -> Due.street("R2d000000").setTolerance(0, 3));
        Due.answers(3, "the greatest", () -> Due.street("R2d000003").setTolerance(0, 0));
        Due.answers(3, "the same", () -> Due.street("R2d000003").setTolerance(0, 3));
        Due.answers(2, "of the last of six", () ->
                Due.street("R2d000000d000000d000000d000000d000000d000002").setTolerance(5, 0));
    }

    private static void noTolerances() {
        refusesTolerances((t, tolerance) -> t.setTolerance(3, tolerance));
        Bounds.refused(Due.NO_PLACE, Bounds::busy, "device 4, tolerance 4",
                t -> t.setTolerance(4, 4));
        Bounds.refused(Due.NO_PLACE, Bounds::busy, "device -1, tolerance -1",
                t -> t.setTolerance(-1, -1));
    }

    private static void eitherSetting() {
        TaughtRemotes t = new TaughtRemotes();
        t.set(0, 3);
        Due.answers(2, "the reach is left", () -> t.about(4));
        t.set(1, 0);
        Due.answers(3, "the noise is left", () -> t.about(3));
        Due.answers(0, "the reach", () -> t.about(4));
    }

    private static void leastAndGreatestSettings() {
        for (int v = 0; v <= 8; v++) {
            int value = v;
            TaughtRemotes t = new TaughtRemotes();
            t.set(1, v);
            Due.answers(v, "the reach", () -> t.about(4));
            if (v <= 3) {
                t.set(0, v);
                Due.answers(v, "the noise", () -> t.about(3));
            } else {
                Bounds.refused(Due.BAD_ARGUMENT, Bounds::busy, "a noise that is a reach only",
                        s -> s.set(0, value));
            }
        }
    }

    private static void previousSettings() {
        TaughtRemotes t = new TaughtRemotes();
        Due.answers(1, "the noise at first", () -> t.set(0, 0));
        Due.answers(0, "the least noise", () -> t.set(0, 3));
        Due.answers(3, "the greatest noise", () -> t.set(0, 3));
        Due.answers(2, "the reach at first", () -> t.set(1, 0));
        Due.answers(0, "the least reach", () -> t.set(1, 8));
        Due.answers(8, "the greatest reach", () -> t.set(1, 8));
    }

    private static void noSettings() {
        for (int[] at : new int[][] {{-1, 0}, {2, 0}, {0, -1}, {0, 4}, {1, -1}, {1, 9}, {2, 9},
            {-1, -1}}) {
            Bounds.refused(Due.BAD_ARGUMENT, Bounds::busy, "set " + at[0] + " to " + at[1],
                    t -> t.set(at[0], at[1]));
        }
        for (int far : Bounds.FAR) {
            Bounds.refused(Due.BAD_ARGUMENT, Bounds::busy, "what " + far, t -> t.set(far, 0));
            Bounds.refused(Due.BAD_ARGUMENT, Bounds::busy, "noise " + far, t -> t.set(0, far));
            Bounds.refused(Due.BAD_ARGUMENT, Bounds::busy, "reach " + far, t -> t.set(1, far));
        }
    }

    // ---- promise 21

    private static void theLastComesFirst() {
        TaughtRemotes t = Due.street("R4k000007");
        t.enter(0, 0, 8);
        t.erase(0, 0);
        t.undo();
        Due.answers(8, "before erase", () -> t.key(0, 0, 0));
        t.undo();
        Due.answers(7, "before enter", () -> t.key(0, 0, 0));
        Due.answers(1, "records", () -> t.about(2));
        t.enter(0, 0, 9);
        Due.answers(0, "the newest one", t::undo);
        Due.answers(7, "before the newest one", () -> t.key(0, 0, 0));
    }

    private static void from13To0() {
        TaughtRemotes t = new TaughtRemotes();
        for (int i = 0; i < 20; i++) {
            t.set(1, 1);
        }
        for (int left = 13; left >= 0; left--) {
            Due.answers(left, "still remembered", t::undo);
        }
        nothingToUndo(t, "none is left");
    }

    private static void noneRemembered() {
        Bounds.refused(Due.BAD_STATE, Bounds::untouched, "a new object", t -> t.undo());
        Bounds.refused(Due.BAD_STATE, () -> Due.street("R3k000001"), "after load", t -> t.undo());
        Bounds.refused(Due.BAD_STATE, () -> {
            TaughtRemotes t = Bounds.busy();
            t.restore(1);
            return t;
        }, "after restore", t -> t.undo());
        Bounds.refused(Due.BAD_STATE, () -> {
            TaughtRemotes t = Bounds.busy();
            for (int i = 0; i < 9; i++) {
                t.undo();
            }
            return t;
        }, "after as many as there were", t -> t.undo());
    }
}
