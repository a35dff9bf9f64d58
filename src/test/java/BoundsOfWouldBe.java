/** Boundary cases of the promises 22 to 25, and of the heading above them. */
final class BoundsOfWouldBe {
    private static final String TERMS = "Terms";

    private BoundsOfWouldBe() {
    }

    static void run() {
        heading();
        promise22();
        promise23();
        promise24();
        promise25();
    }

    private static void heading() {
        Bounds.sentence(TERMS, "what would be; these and all following methods up to the save slots "
                + "change nothing", BoundsOfWouldBe::nothingIsChanged);
        Bounds.sentence(TERMS, "(those that only tell codes need no room for records",
                BoundsOfWouldBe::noRoomIsNeeded);
        Bounds.sentence(TERMS, "a command of a script that teaches does).",
                BoundsOfWouldBe::scriptsNeedRoom);
    }

    private static void promise22() {
        Bounds.sentence("Promise 22", "Returns the code that would be learned now",
                BoundsOfWouldBe::learnedNow);
        Bounds.sentence("Promise 22", "NONE if the key has no code.",
                () -> noCode((t, h, k) -> t.wouldBe(h, k, 0)));
        Bounds.sentence("Promise 22", "Throws IndexOutOfBoundsException if there is no such house "
                + "or key", () -> {
                BoundsOfWhatThereIs.refusesKeys((t, h, k) -> t.wouldBe(h, k, 0));
                refusesHouses((t, to) -> t.wouldBe(0, 0, to));
                refusesHouses((t, to) -> t.wouldBe(1, 0, to));
            });
    }

    private static void promise23() {
        Bounds.sentence("Promise 23", "Returns the code that would be learned there if from taught "
                + "the next house towards it, that one the next one, and so on (each time the code "
                + "that was learned just before, x going on from one to the next)",
                BoundsOfWouldBe::fromOneToEightHousesOn);
        Bounds.sentence("Promise 23", "the code itself if both houses are the same",
                BoundsOfWouldBe::handedToItself);
        Bounds.sentence("Promise 23", "NONE if the key has no code.",
                () -> noCode((t, h, k) -> t.handed(h, k, 0)));
        Bounds.sentence("Promise 23", "Throws IndexOutOfBoundsException if there is no such house "
                + "or key", () -> {
                BoundsOfWhatThereIs.refusesKeys((t, h, k) -> t.handed(h, k, 0));
                refusesHouses((t, to) -> t.handed(0, 0, to));
                refusesHouses((t, to) -> t.handed(1, 0, to));
            });
    }

    private static void promise24() {
        Bounds.sentence("Promise 24", "Returns 10 * (house) + (key) of the key",
                BoundsOfWouldBe::firstAndLastTeachers);
        Bounds.sentence("Promise 24", "(of any house, this one, too)",
                BoundsOfWouldBe::teachersOfTheHouseItself);
        Bounds.sentence("Promise 24", "whose code, if it taught the house now, would be learned as "
                + "one that is apart from the code of the device by the fewest bits",
                BoundsOfWouldBe::fewestBits);
        Bounds.sentence("Promise 24", "among several the smallest such number",
                BoundsOfWouldBe::smallestOfSeveral);
        Bounds.sentence("Promise 24", "NONE if no key has a code.", BoundsOfWouldBe::noTeachers);
        Bounds.sentence("Promise 24", "Throws IndexOutOfBoundsException if there is no such house "
                + "or device", BoundsOfWouldBe::noHouseOrDevice);
    }

    private static void promise25() {
        Bounds.sentence("Promise 25", "Returns the smallest tolerance, 0 to 3, with which it "
                + "accepts the codes of all keys whose root has the code of the device",
                BoundsOfWouldBe::from0To3Bits);
        Bounds.sentence("Promise 25", "if the reach does not matter",
                BoundsOfWouldBe::reachDoesNotMatter);
        Bounds.sentence("Promise 25", "(0 if there are none)", BoundsOfWouldBe::noKeysOfThatRoot);
        Bounds.sentence("Promise 25", "NONE if there is none.", BoundsOfWouldBe::fourBits);
        Bounds.sentence("Promise 25", "Throws IndexOutOfBoundsException if there is no such device",
                () -> BoundsOfWhatThereIs.refusesDevices((t, d) -> t.leastTolerance(d)));
    }

    /** Houses 0 to 3: those just outside, those far outside, and the ends of two and of nine. */
    static void refusesHouses(BoundsOfWhatThereIs.AskOne ask) {
        Bounds.refused(Due.NO_PLACE, Bounds::busy, "house -1", t -> ask.of(t, -1));
        Bounds.refused(Due.NO_PLACE, Bounds::busy, "house 4", t -> ask.of(t, 4));
        Bounds.refused(Due.NO_PLACE, () -> Due.street("R2k000000d000000"), "house 2 of two",
                t -> ask.of(t, 2));
        Bounds.refused(Due.NO_PLACE, () -> Due.street("R9k000000d000000"), "house 9 of nine",
                t -> ask.of(t, 9));
        for (int far : Bounds.FAR) {
            Bounds.refused(Due.NO_PLACE, Bounds::busy, "house " + far, t -> ask.of(t, far));
        }
        for (int h = 0; h < 9; h++) {
            int house = h;
            String got = Bounds.outcome(Due.street("R9k000000d000000"), t -> ask.of(t, house));
            Due.same("false", "" + got.endsWith("Exception"), "house " + h + " of nine");
        }
    }

    private static void noCode(BoundsOfWhatThereIs.AskKey ask) {
        Due.answers(Due.NONE, "never had one", () -> ask.of(Bounds.busy(), 1, 0));
        Due.answers(Due.NONE, "erased", () -> ask.of(Bounds.busy(), 1, 1));
        Due.answers(Due.NONE, "of the house itself", () -> ask.of(Bounds.busy(), 0, 2));
        Due.answers(Due.NONE, "of a new object", () -> ask.of(Bounds.untouched(), 3, 5));
    }

    // ---- what the heading says

    private static void nothingIsChanged() {
        Bounds.Ask[] asked = {
            t -> t.wouldBe(0, 0, 3), t -> t.handed(0, 0, 3), t -> t.bestTeacher(2, 0),
            t -> t.leastTolerance(0), t -> t.simulate(0, 0, 1, 60),
            t -> t.runScript(3, 100302000030000L), t -> t.runScript(3, 400005000041800L),
            t -> t.runScript(2, 2000099999L)};
        for (int i = 0; i < asked.length; i++) {
            Bounds.unchanged(Bounds::busy, "question " + i, asked[i]);
            Bounds.unchanged(Bounds::fullOfRecords, "question " + i + " of 40 records", asked[i]);
        }
    }

    private static void noRoomIsNeeded() {
        TaughtRemotes t = Due.street("R9k000100d000000");
        for (int i = 1; i < 40; i++) {
            t.enter(0, 0, 100);
        }
        Due.answers(68, "wouldBe", () -> t.wouldBe(0, 0, 8));
        Due.answers(Dice.learned(100, Dice.after(0), 1, 1), "handed", () -> t.handed(0, 0, 1));
        Due.answers(0, "bestTeacher", () -> t.bestTeacher(8, 0));
        Due.answers(0, "simulate", () -> t.simulate(0, 0, 1, 60) < 0 ? 1 : 0);
        Due.answers(0, "leastTolerance", () -> t.leastTolerance(0));
    }

    private static void scriptsNeedRoom() {
        Due.answers(0, "with 40 records", () -> Bounds.fullOfRecords().runScript(1, 10010));
        TaughtRemotes last = Bounds.busyWithRecords(39);
        Due.answers(Due.NONE, "with 39 records", () -> last.runScript(1, 10010));
        Due.answers(1, "two with 39 records", () -> last.runScript(2, 1001010010L));
        Due.answers(Due.NONE, "with 39 records still", () -> last.runScript(1, 10010));
        Due.answers(2, "three with 38 records",
                () -> Bounds.busyWithRecords(38).runScript(3, 100101001010010L));
    }

    // ---- promise 22

    private static void learnedNow() {
        for (int i = 0; i < 9 * 4 * 5; i++) {
            int to = i % 9;
            int noise = i / 9 % 4;
            int before = i / 36;
            TaughtRemotes t = Due.street("R9k000000k804095n" + noise);
            for (int taught = 0; taught < before; taught++) {
                t.teach(0, 0, 0, 1);
            }
            int r = Dice.after(before);
            Due.answers(Dice.learned(0, r, noise, to), "up to " + to, () -> t.wouldBe(0, 0, to));
            Due.answers(Dice.learned(4095, r, noise, 8 - to), "down to " + to,
                    () -> t.wouldBe(8, 0, to));
            int want = Dice.learned(0, r, noise, to);
            Due.answers(want, "it is learned so", () -> t.teach(0, 0, to, 3));
        }
    }

    // ---- promise 23

    private static void fromOneToEightHousesOn() {
        for (int i = 0; i < 9 * 9 * 4; i++) {
            int from = i % 9;
            int to = i / 9 % 9;
            int noise = i / 81;
            TaughtRemotes t = Due.street("R9k" + from + "01365n" + noise);
            Dice dice = new Dice(1);
            int want = 1365;
            for (int step = 0; step < Math.abs(from - to); step++) {
                want = Dice.learned(want, dice.next(), noise, 1);
            }
            int code = want;
            Due.answers(code, "from " + from + " to " + to + " with noise " + noise,
                    () -> t.handed(from, 0, to));
        }
    }

    private static void handedToItself() {
        for (int h = 0; h < 9; h++) {
            int house = h;
            Due.answers(h, "house " + h,
                    () -> Due.street("R9n3k" + house + "0000" + house).handed(house, 0, house));
        }
        Due.answers(4095, "the greatest code",
                () -> Due.street("R9n3k854095").handed(8, 5, 8));
    }

    // ---- promise 24

    private static void firstAndLastTeachers() {
        for (int h = 0; h < 9; h++) {
            for (int k = 0; k < 6; k++) {
                int number = 10 * h + k;
                Due.answers(number, "the only key with a code", () ->
                        Due.street("R9d000000k" + number / 10 + number % 10 + "4095")
                                .bestTeacher(0, 0));
            }
        }
    }

    private static void teachersOfTheHouseItself() {
        Due.answers(21, "the house itself, none wrong at home",
                () -> Due.street("R9n3d000000k214095").bestTeacher(2, 0));
        // Over 8 houses the bit 5 is wrong; at home none is.
        Due.answers(80, "nearer because it is at home",
                () -> Due.street("R9n3d000000k000000k800000").bestTeacher(8, 0));
    }

    private static void fewestBits() {
        Due.answers(10, "eleven bits, not twelve",
                () -> Due.street("R2n0d000000k004095k104094").bestTeacher(0, 0));
        Due.answers(10, "none, not one",
                () -> Due.street("R2n0d000000k000001k100000").bestTeacher(0, 0));
        // Over 8 houses 32 becomes 0, and 0 becomes 32.
        Due.answers(1, "as learned, not as it is",
                () -> Due.street("R9d000000k000000k010032").bestTeacher(8, 0));
        TaughtRemotes next = Due.street("R9d000000k000000k010032k020512");
        next.teach(0, 0, 0, 3);
        Due.answers(2, "with the x that is now", () -> next.bestTeacher(8, 0));
    }

    private static void smallestOfSeveral() {
        String[] order = {"k850001", "k800002", "k050004", "k010008", "k000016"};
        int[] want = {85, 80, 5, 1, 0};
        StringBuilder text = new StringBuilder("R9n0d000000");
        for (int i = 0; i < order.length; i++) {
            text.append(order[i]);
            String told = text.toString();
            Due.answers(want[i], told, () -> Due.street(told).bestTeacher(4, 0));
        }
        Due.answers(5, "the key 5 before the house 1",
                () -> Due.street("R2n0d000000k100000k050000").bestTeacher(0, 0));
    }

    private static void noTeachers() {
        Due.answers(Due.NONE, "never", () -> Due.street("R9d000000").bestTeacher(8, 0));
        TaughtRemotes t = Due.street("R9d000000k000000");
        t.erase(0, 0);
        Due.answers(Due.NONE, "no longer", () -> t.bestTeacher(0, 0));
        Due.answers(0, "one, twelve bits apart",
                () -> Due.street("R2n0d000000k004095").bestTeacher(0, 0));
    }

    private static void noHouseOrDevice() {
        refusesHouses((t, to) -> t.bestTeacher(to, 0));
        BoundsOfWhatThereIs.refusesDevices((t, d) -> t.bestTeacher(0, d));
        Bounds.refused(Due.NO_PLACE, Bounds::untouched, "neither", t -> t.bestTeacher(4, 0));
    }

    // ---- promise 25

    /** Records 0 to 4 are 0, 32, 544, 545 and 609 with noise 3; houses 0 and 8 in turn. */
    private static void from0To3Bits() {
        for (int bits = 0; bits <= 3; bits++) {
            TaughtRemotes t = Bounds.chainOf(bits + 1, 3);
            t.addDevice(0, 0, 0);
            int want = bits;
            Due.answers(want, bits + " bits", () -> t.leastTolerance(0));
            t.setTolerance(0, 3);
            Due.answers(want, "whatever it is now", () -> t.leastTolerance(0));
        }
        TaughtRemotes several = Bounds.chainOf(4, 3);
        several.addDevice(0, 0, 0);
        several.enter(8, 0, 0);
        Due.answers(2, "the farthest of those that are there", () -> several.leastTolerance(0));
        several.erase(0, 0);
        Due.answers(0, "an entered code is its own root", () -> several.leastTolerance(0));
    }

    private static void reachDoesNotMatter() {
        for (int reach = 0; reach <= 8; reach++) {
            TaughtRemotes t = Bounds.chainOf(2, 3);
            t.addDevice(0, 0, 0);
            t.set(1, reach);
            Due.answers(1, "with reach " + reach, () -> t.leastTolerance(0));
        }
    }

    private static void noKeysOfThatRoot() {
        Due.answers(0, "no codes at all", () -> Due.street("R2d000000").leastTolerance(0));
        Due.answers(0, "other roots", () -> Due.street("R2d000000k004095").leastTolerance(0));
        TaughtRemotes learned = Bounds.chainOf(2, 3);
        learned.addDevice(0, 32, 0);
        Due.answers(0, "a learned code alone has the device's", () -> learned.leastTolerance(0));
        TaughtRemotes erased = Bounds.chainOf(5, 3);
        erased.addDevice(0, 0, 0);
        erased.erase(0, 0);
        erased.erase(8, 0);
        Due.answers(0, "erased codes", () -> erased.leastTolerance(0));
    }

    private static void fourBits() {
        TaughtRemotes t = Bounds.chainOf(5, 3);
        t.addDevice(0, 0, 3);
        Due.answers(Due.NONE, "four bits", () -> t.leastTolerance(0));
        t.enter(0, 0, 4095);
        Due.answers(3, "three bits are left", () -> t.leastTolerance(0));
        TaughtRemotes back = Bounds.chainOf(6, 3);
        back.addDevice(0, 0, 0);
        back.erase(0, 0);
        Due.answers(3, "the bit 5 is right again", () -> back.leastTolerance(0));
    }
}
