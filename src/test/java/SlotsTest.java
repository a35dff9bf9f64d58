/** Promises 28 and 29: the save slots. */
public final class SlotsTest {
    public static void main(String[] args) {
        promise28();
        promise29();
        promise29keeps();
        Due.end("SlotsTest");
    }

    private static void promise28() {
        TaughtRemotes t = Due.street("R5k000001k100002d000003");
        Due.answers(2, "save(0)", () -> t.save(0));
        t.enter(2, 2, 2);
        Due.answers(3, "save(1)", () -> t.save(1));
        Due.refuses(Due.NO_PLACE, t, "save(-1)", () -> t.save(-1));
        Due.refuses(Due.NO_PLACE, t, "save(2)", () -> t.save(2));
        Due.refuses(Due.NO_PLACE, t, "save(NONE)", () -> t.save(Due.NONE));
        Due.answers(0, "save is no action, enter was", t::undo);
        Due.answers(3, "the slot is not undone", () -> t.restore(1));
        t.enter(4, 4, 4);
        Due.answers(4, "save again", () -> t.save(0));
        Due.answers(4, "the later one", () -> t.restore(0));
        Due.answers(3, "the other one", () -> t.restore(1));
        Due.answers(0, "save of a new object", () -> new TaughtRemotes().save(1));
    }

    private static void promise29() {
        TaughtRemotes t = Due.street("R9k000000d000003d800000n3s5");
        t.teach(0, 0, 8, 0);
        t.press(0, 0);
        t.set(1, 7);
        String kept = Due.seen(t);
        t.save(1);
        Due.write(t, "R2");
        int learned = t.teach(8, 0, 0, 3);
        t.press(0, 0);
        t.addDevice(1, 1, 1);
        t.set(0, 0);
        t.setTolerance(0, 1);
        t.erase(0, 0);
        Due.refuses(Due.BAD_STATE, t, "restore(0)", () -> t.restore(0));
        Due.refuses(Due.NO_PLACE, t, "restore(-1)", () -> t.restore(-1));
        Due.refuses(Due.NO_PLACE, t, "restore(2)", () -> t.restore(2));
        Due.answers(2, "restore(1)", () -> t.restore(1));
        Due.same(kept, Due.seen(t), "all as it was saved");
        Due.refuses(Due.BAD_STATE, t, "undo after restore", t::undo);
        Due.answers(learned, "x as well", () -> t.teach(8, 0, 0, 3));
        Due.answers(0, "what was done since then can be undone", t::undo);
        Due.answers(2, "the text is kept", t::clearText);
    }

    private static void promise29keeps() {
        TaughtRemotes t = Due.street("R3k000001");
        t.save(0);
        for (int i = 0; i < 3; i++) {
            t.enter(1, 1, 7);
            t.addDevice(2, 7, 0);
            t.press(1, 1);
            Due.answers(1, "restore number " + i, () -> t.restore(0));
            Due.answers(Due.NONE, "no code there", () -> t.key(1, 1, 0));
            Due.answers(0, "no devices", () -> t.about(1));
            Due.answers(0, "none on", () -> t.about(7));
        }
        // A slot that is not filled is refused without forgetting what is remembered.
        t.enter(0, 0, 0);
        Due.refuses(Due.BAD_STATE, t, "restore(1)", () -> t.restore(1));
        Due.answers(0, "undo", t::undo);
        // The number of houses comes back from the slot, and load empties it.
        Due.write(t, "R9");
        t.load();
        Due.refuses(Due.BAD_STATE, t, "restore(0) after load", () -> t.restore(0));
        t.save(0);
        Due.answers(0, "restore(0)", () -> t.restore(0));
        Due.answers(9, "houses", () -> t.about(0));
    }
}
