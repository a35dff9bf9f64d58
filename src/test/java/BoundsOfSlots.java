/** Boundary cases of the promises 28 and 29. */
final class BoundsOfSlots {
    private BoundsOfSlots() {
    }

    static void run() {
        Bounds.sentence("Promise 28", "Stores the present state in a save slot.",
                BoundsOfSlots::savedOverAndAlone);
        Bounds.sentence("Promise 28", "slot: 0 or 1", BoundsOfSlots::bothSlots);
        Bounds.sentence("Promise 28", "Returns the number of records.",
                BoundsOfSlots::fromNoneTo40Saved);
        Bounds.sentence("Promise 28", "Throws IndexOutOfBoundsException if there is no such save "
                + "slot", () -> refusesSlots((t, slot) -> t.save(slot)));
        Bounds.sentence("Promise 29", "Replaces the state by the one in a save slot",
                BoundsOfSlots::everythingComesBack);
        Bounds.sentence("Promise 29", "Replaces the state by the one in a save slot",
                BoundsOfSlots::numbersThatWereUsedAgain);
        Bounds.sentence("Promise 29", "and forgets all remembered states.",
                BoundsOfSlots::rememberedAreForgotten);
        Bounds.sentence("Promise 29", "The save slot keeps it.", BoundsOfSlots::keptAndKeptAgain);
        Bounds.sentence("Promise 29", "slot: 0 or 1", BoundsOfSlots::eachItsOwn);
        Bounds.sentence("Promise 29", "Returns the number of records then.",
                BoundsOfSlots::fromNoneTo40Restored);
        Bounds.sentence("Promise 29", "Throws IndexOutOfBoundsException if there is no such save "
                + "slot", () -> refusesSlots((t, slot) -> t.restore(slot)));
        Bounds.sentence("Promise 29", "Throws IllegalStateException if nothing has been saved in it "
                + "since the last load", BoundsOfSlots::nothingSaved);
    }

    private static void refusesSlots(BoundsOfWhatThereIs.AskOne ask) {
        for (int slot : new int[] {-1, 2, 3, 32, 33}) {
            Bounds.refused(Due.NO_PLACE, Bounds::busy, "slot " + slot, t -> ask.of(t, slot));
            Bounds.refused(Due.NO_PLACE, Bounds::untouched, "slot " + slot + " of a new object",
                    t -> ask.of(t, slot));
        }
        for (int far : Bounds.FAR) {
            Bounds.refused(Due.NO_PLACE, Bounds::busy, "slot " + far, t -> ask.of(t, far));
        }
    }

    private static String stateOf(Bounds.Maker maker) {
        return Bounds.all(maker.make());
    }

    // ---- promise 28

    private static void savedOverAndAlone() {
        TaughtRemotes t = Bounds.busy();
        t.save(0);
        t.enter(0, 0, 1234);
        Due.answers(7, "the earlier state", () -> t.restore(0));
        t.enter(0, 0, 77);
        t.enter(0, 0, 78);
        Due.answers(9, "saved over it", () -> t.save(0));
        t.erase(0, 0);
        Due.answers(9, "the later state", () -> t.restore(0));
        Due.answers(78, "its code", () -> t.key(0, 0, 0));
        TaughtRemotes saved = Bounds.busy();
        saved.save(0);
        Due.same(stateOf(Bounds::busy), Bounds.all(saved), "save changes no state");
        TaughtRemotes remembered = Bounds.busy();
        remembered.save(0);
        Due.answers(8, "save is no action and forgets nothing", remembered::undo);
    }

    private static void bothSlots() {
        TaughtRemotes t = new TaughtRemotes();
        t.enter(0, 0, 1);
        Due.answers(1, "slot 0", () -> t.save(0));
        t.enter(0, 0, 2);
        Due.answers(2, "slot 1", () -> t.save(1));
        t.restore(0);
        Due.answers(1, "of slot 0", () -> t.key(0, 0, 0));
        t.restore(1);
        Due.answers(2, "of slot 1", () -> t.key(0, 0, 0));
    }

    private static void fromNoneTo40Saved() {
        for (int slot = 0; slot < 2; slot++) {
            int s = slot;
            Due.answers(0, "none", () -> Bounds.untouched().save(s));
            Due.answers(7, "seven", () -> Bounds.busy().save(s));
            Due.answers(40, "forty", () -> Bounds.fullOfRecords().save(s));
        }
    }

    // ---- promise 29

    private static void everythingComesBack() {
        for (int slot = 0; slot < 2; slot++) {
            TaughtRemotes t = Bounds.fullOfRecords();
            t.addDevice(1, 1, 1);
            t.save(slot);
            TaughtRemotes same = Bounds.fullOfRecords();
            same.addDevice(1, 1, 1);
            for (int h = 0; h < 4; h++) {
                t.erase(h, 0);
                t.setTolerance(h, 3 - h);
            }
            t.press(0, 5);
            t.addDevice(0, 4095, 0);
            t.set(0, 0);
            t.set(1, 0);
            int kept = slot;
            Due.answers(40, "restore", () -> t.restore(kept));
            Due.same(Bounds.all(same), Bounds.all(t), "all as it was saved, x as well");
        }
        TaughtRemotes x = Due.street("R9k000000n3");
        x.save(0);
        Due.answers(32, "from the first x", () -> x.teach(0, 0, 8, 0));
        x.restore(0);
        Due.answers(32, "from the first x again", () -> x.teach(0, 0, 8, 0));
        TaughtRemotes text = Bounds.busy();
        text.restore(0);
        Due.answers(11, "the text is no part of it", text::clearText);
    }

    /** Records and devices that are taken back give their numbers to others. */
    private static void numbersThatWereUsedAgain() {
        TaughtRemotes t = Due.street("R9k000000n3");
        t.teach(0, 0, 8, 5);
        t.addDevice(8, 32, 3);
        t.press(8, 5);
        String kept = "0 8 5 32 5 8 32 3 1";
        Due.same(kept, lastOf(t), "the record and the device");
        t.save(0);
        t.undo();
        t.undo();
        t.undo();
        t.enter(3, 2, 77);
        t.addDevice(1, 2, 0);
        Due.same("-9 3 2 77 -9 1 2 0 0", lastOf(t), "the others of these numbers");
        t.restore(0);
        Due.same(kept, lastOf(t), "those that were saved");
        t.enter(4, 1, 1);
        t.undo();
        Due.same(kept, lastOf(t), "those that were saved, still");
    }

    /** The record 1 and the device 0. */
    private static String lastOf(TaughtRemotes t) {
        StringBuilder last = new StringBuilder();
        for (int what = 0; what <= 4; what++) {
            last.append(t.record(1, what)).append(' ');
        }
        for (int what = 0; what <= 3; what++) {
            last.append(t.device(0, what)).append(what < 3 ? " " : "");
        }
        return last.toString();
    }

    private static void rememberedAreForgotten() {
        for (int slot = 0; slot < 2; slot++) {
            TaughtRemotes t = Bounds.fullOfRecords();
            t.restore(slot);
            Due.same(Due.BAD_STATE.getName(), Bounds.outcome(t, s -> s.undo()), "undo");
            for (int i = 0; i < 15; i++) {
                t.set(1, i % 9);
            }
            Due.answers(13, "room for 14 again", t::undo);
        }
    }

    private static void keptAndKeptAgain() {
        TaughtRemotes t = Due.street("R3k000001d000010");
        t.save(0);
        for (int i = 0; i < 5; i++) {
            t.enter(0, 0, 7);
            t.press(0, 0);
            t.setTolerance(0, 3);
            t.addDevice(0, 0, 0);
            Due.answers(1, "restore " + i, () -> t.restore(0));
            Due.answers(1, "the code", () -> t.key(0, 0, 0));
            Due.answers(0, "the tolerance", () -> t.device(0, 2));
            Due.answers(1, "the devices", () -> t.about(1));
        }
    }

    private static void eachItsOwn() {
        TaughtRemotes t = Due.street("R2k000001");
        t.save(1);
        Due.same(Due.BAD_STATE.getName(), Bounds.outcome(t, s -> s.restore(0)), "only slot 1");
        Due.answers(1, "slot 1", () -> t.restore(1));
        TaughtRemotes other = Due.street("R2k000001");
        other.save(0);
        Due.same(Due.BAD_STATE.getName(), Bounds.outcome(other, s -> s.restore(1)), "only slot 0");
        Due.answers(1, "slot 0", () -> other.restore(0));
    }

    private static void fromNoneTo40Restored() {
        TaughtRemotes t = Bounds.fullOfRecords();
        t.save(0);
        Due.answers(40, "forty", () -> t.restore(0));
        TaughtRemotes none = Bounds.untouched();
        none.save(1);
        none.enter(0, 0, 0);
        Due.answers(0, "none", () -> none.restore(1));
        Due.answers(0, "none are there", () -> none.about(2));
    }

    private static void nothingSaved() {
        for (int slot = 0; slot < 2; slot++) {
            int s = slot;
            Bounds.refused(Due.BAD_STATE, Bounds::untouched, "of a new object", t -> t.restore(s));
            Bounds.refused(Due.BAD_STATE, () -> Due.street("R3k000001"), "after load",
                    t -> t.restore(s));
            Bounds.refused(Due.BAD_STATE, () -> {
                TaughtRemotes t = Bounds.busy();
                t.load();
                t.set(1, 7);
                return t;
            }, "saved before the last load", t -> t.restore(s));
            Bounds.refused(Due.BAD_STATE, () -> {
                TaughtRemotes t = Due.street("R3k000001");
                t.set(1, 7);
                t.save(1 - s);
                return t;
            }, "saved in the other slot alone", t -> t.restore(s));
            TaughtRemotes failed = Bounds.busy();
            failed.append('x');
            Bounds.outcome(failed, t -> t.load());
            String got = Bounds.outcome(failed, t -> t.restore(s));
            Due.same("false", "" + got.endsWith("Exception"), "a load that throws is none");
        }
    }
}
