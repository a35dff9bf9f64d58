/** Boundary cases of the promises 6 to 13. */
final class BoundsOfWhatThereIs {
    private BoundsOfWhatThereIs() {
    }

    static void run() {
        promise6();
        promise7();
        promise8();
        promise9();
        promise10();
        promises11and12();
        promise13();
    }

    private static void promise6() {
        Bounds.sentence("Promise 6", "what: 0: the number of houses", () -> {
            Due.answers(2, "the fewest", () -> Due.street("R2").about(0));
            Due.answers(9, "the most", () -> Due.street("R9").about(0));
        });
        Bounds.sentence("Promise 6", "1: of devices", () -> {
            Due.answers(0, "none", () -> Bounds.untouched().about(1));
            Due.answers(6, "the most", () -> Bounds.fullOfDevices().about(1));
        });
        Bounds.sentence("Promise 6", "2: of records", () -> {
            Due.answers(0, "none", () -> Bounds.untouched().about(2));
            Due.answers(40, "the most", () -> Bounds.fullOfRecords().about(2));
        });
        Bounds.sentence("Promise 6", "3: the noise", () -> {
            Due.answers(0, "the least", () -> Due.street("R2n0s8").about(3));
            Due.answers(3, "the greatest", () -> Due.street("R2n3s0").about(3));
        });
        Bounds.sentence("Promise 6", "4: the reach", () -> {
            Due.answers(0, "the least", () -> Due.street("R2n3s0").about(4));
            Due.answers(8, "the greatest", () -> Due.street("R2n0s8").about(4));
        });
        Bounds.sentence("Promise 6", "5: the records that were taught",
                BoundsOfWhatThereIs::taughtRecords);
        Bounds.sentence("Promise 6", "6: those with a wrong bit",
                BoundsOfWhatThereIs::recordsWithAWrongBit);
        Bounds.sentence("Promise 6", "7: the devices that are on, bit d set for the device d",
                BoundsOfWhatThereIs::devicesThatAreOn);
        Bounds.sentence("Promise 6", "8: the number of different roots (records) of the codes that "
                + "keys have now", BoundsOfWhatThereIs::differentRoots);
        Bounds.sentence("Promise 6", "9: the greatest generation of a record, NONE without records",
                BoundsOfWhatThereIs::greatestGeneration);
        Bounds.sentence("Promise 6", "Throws IllegalArgumentException if what is not 0 to 9",
                () -> refusesWhat(9, (t, what) -> t.about(what)));
    }

    private static void promise7() {
        Bounds.sentence("Promise 7", "what: 0: its code; 1: the record of it",
                BoundsOfWhatThereIs::leastAndGreatestOfAKey);
        Bounds.sentence("Promise 7", "2: the generation of that record",
                BoundsOfWhatThereIs::generationsOfKeys);
        Bounds.sentence("Promise 7", "3: the house of its root", BoundsOfWhatThereIs::housesOfRoots);
        Bounds.sentence("Promise 7", "4: the wrong bits in its chain (each record that has one "
                + "counts)", BoundsOfWhatThereIs::wrongBitsOfKeys);
        Bounds.sentence("Promise 7", "5: by how many bits its code is apart from that of its root",
                BoundsOfWhatThereIs::apartFromTheRoot);
        Bounds.sentence("Promise 7", "Returns that number; NONE if the key has no code.",
                BoundsOfWhatThereIs::keysWithoutACode);
        Bounds.sentence("Promise 7", "Throws IndexOutOfBoundsException if there is no such house or "
                + "key", () -> refusesKeys((t, h, k) -> t.key(h, k, 0)));
        Bounds.sentence("Promise 7", "Throws IllegalArgumentException if what is not 0 to 5",
                BoundsOfWhatThereIs::whatOfKeys);
    }

    private static void promise8() {
        Bounds.sentence("Promise 8", "what: 0: its parent, NONE without one",
                BoundsOfWhatThereIs::parents);
        Bounds.sentence("Promise 8", "1: its house; 2: its key; 3: its code",
                BoundsOfWhatThereIs::leastAndGreatestOfARecord);
        Bounds.sentence("Promise 8", "4: its wrong bit, NONE without one",
                BoundsOfWhatThereIs::wrongBitsOfRecords);
        Bounds.sentence("Promise 8", "5: the number of records whose parent it is",
                BoundsOfWhatThereIs::children);
        Bounds.sentence("Promise 8", "6: the number of keys that have their codes from it or from "
                + "a record with it in its chain", BoundsOfWhatThereIs::keysFromARecord);
        Bounds.sentence("Promise 8", "Throws IndexOutOfBoundsException if there is no such record",
                BoundsOfWhatThereIs::noSuchRecord);
        Bounds.sentence("Promise 8", "Throws IllegalArgumentException if what is not 0 to 6",
                BoundsOfWhatThereIs::whatOfRecords);
    }

    private static void promise9() {
        Bounds.sentence("Promise 9", "what: 0: its house; 1: its code; 2: its tolerance",
                BoundsOfWhatThereIs::leastAndGreatestOfADevice);
        Bounds.sentence("Promise 9", "3: 1 if it is on, otherwise 0", BoundsOfWhatThereIs::onAndOff);
        Bounds.sentence("Promise 9", "4: the number of keys, of all houses, whose code it would "
                + "accept if the reach were 8", BoundsOfWhatThereIs::keysOfAllHouses);
        Bounds.sentence("Promise 9", "Throws IndexOutOfBoundsException if there is no such device",
                () -> refusesDevices((t, d) -> t.device(d, 0)));
        Bounds.sentence("Promise 9", "Throws IllegalArgumentException if what is not 0 to 4",
                () -> refusesWhat(4, (t, what) -> t.device(3, what)));
    }

    private static void promise10() {
        Bounds.sentence("Promise 10", "i: 0 or more", BoundsOfWhatThereIs::placeZero);
        Bounds.sentence("Promise 10", "Returns the record at this place, from 0, of the chain of "
                + "the record from which this key has its code", BoundsOfWhatThereIs::allPlaces);
        Bounds.sentence("Promise 10", "NONE if there is no such place, or the key has no code.",
                BoundsOfWhatThereIs::noSuchPlace);
        Bounds.sentence("Promise 10", "Throws IndexOutOfBoundsException if there is no such house "
                + "or key", () -> refusesKeys((t, h, k) -> t.trace(h, k, 0)));
        Bounds.sentence("Promise 10", "Throws IllegalArgumentException if i is negative",
                BoundsOfWhatThereIs::negativePlaces);
    }

    private static void promises11and12() {
        Bounds.sentence("Promise 11", "Returns the record with a wrong bit in the chain of its code "
                + "that is nearest to the root", BoundsOfWhatThereIs::nearestToTheRoot);
        Bounds.sentence("Promise 11", "NONE if there is none, or the key has no code.",
                BoundsOfWhatThereIs::neverWentWrong);
        Bounds.sentence("Promise 11", "Throws IndexOutOfBoundsException if there is no such house "
                + "or key", () -> refusesKeys((t, h, k) -> t.wentWrong(h, k)));
        Bounds.sentence("Promise 12", "Returns the record with the greatest number that is in both "
                + "chains", BoundsOfWhatThereIs::greatestInBothChains);
        Bounds.sentence("Promise 12", "NONE if there is none, or one of the keys has no code.",
                BoundsOfWhatThereIs::nothingInCommon);
        Bounds.sentence("Promise 12", "Throws IndexOutOfBoundsException if there is no such house "
                + "or key", BoundsOfWhatThereIs::noSuchKeyInCommon);
    }

    private static void promise13() {
        Bounds.sentence("Promise 13", "Returns the devices that would accept it if it were pressed, "
                + "bit d set for the device d", BoundsOfWhatThereIs::fromNoneToAllAccept);
        Bounds.sentence("Promise 13", "0 if it has no code.",
                BoundsOfWhatThereIs::nobodyAcceptsNoCode);
        Bounds.sentence("Promise 13", "Throws IndexOutOfBoundsException if there is no such house "
                + "or key", () -> refusesKeys((t, h, k) -> t.accepted(h, k)));
    }

    // ---- refusals that several promises have

    interface AskKey {
        long of(TaughtRemotes t, int h, int k);
    }

    interface AskOne {
        long of(TaughtRemotes t, int v);
    }

    /** Houses 0 to 3 and keys 0 to 5: those just outside, and some that are far outside. */
    static void refusesKeys(AskKey ask) {
        for (int[] at : new int[][] {{-1, 0}, {4, 0}, {0, -1}, {0, 6}, {3, 6}, {4, 6}, {-1, -1}}) {
            Bounds.refused(Due.NO_PLACE, Bounds::busy, "house " + at[0] + ", key " + at[1],
                    t -> ask.of(t, at[0], at[1]));
        }
        for (int far : Bounds.FAR) {
            Bounds.refused(Due.NO_PLACE, Bounds::busy, "house " + far, t -> ask.of(t, far, 0));
            Bounds.refused(Due.NO_PLACE, Bounds::busy, "key " + far, t -> ask.of(t, 0, far));
        }
        Bounds.refused(Due.NO_PLACE, () -> Due.street("R9k000000"), "house 9 of nine",
                t -> ask.of(t, 9, 0));
        Bounds.refused(Due.NO_PLACE, () -> Due.street("R2k000000"), "house 2 of two",
                t -> ask.of(t, 2, 0));
        for (int[] at : new int[][] {{0, 0}, {0, 5}, {3, 0}, {3, 5}}) {
            String got = Bounds.outcome(Bounds.busy(), t -> ask.of(t, at[0], at[1]));
            Due.same("false", "" + got.endsWith("BoundsException"), "the first and last keys");
        }
    }

    /** A street of four devices, one of six and one of none: devices that are just not there. */
    static void refusesDevices(AskOne ask) {
        Bounds.refused(Due.NO_PLACE, Bounds::busy, "device -1", t -> ask.of(t, -1));
        Bounds.refused(Due.NO_PLACE, Bounds::busy, "device 4 of four", t -> ask.of(t, 4));
        Bounds.refused(Due.NO_PLACE, Bounds::busy, "device 5 of four", t -> ask.of(t, 5));
        Bounds.refused(Due.NO_PLACE, Bounds::fullOfDevices, "device 6", t -> ask.of(t, 6));
        Bounds.refused(Due.NO_PLACE, Bounds::untouched, "device 0 of none", t -> ask.of(t, 0));
        for (int far : Bounds.FAR) {
            Bounds.refused(Due.NO_PLACE, Bounds::busy, "device " + far, t -> ask.of(t, far));
        }
        for (int d = 0; d < 6; d++) {
            int device = d;
            String got = Bounds.outcome(Bounds.fullOfDevices(), t -> ask.of(t, device));
            Due.same("false", "" + got.endsWith("Exception"), "device " + d + " of six");
        }
    }

    private static void refusesWhat(int greatest, AskOne ask) {
        Bounds.refused(Due.BAD_ARGUMENT, Bounds::busy, "what -1", t -> ask.of(t, -1));
        Bounds.refused(Due.BAD_ARGUMENT, Bounds::busy, "what " + (greatest + 1),
                t -> ask.of(t, greatest + 1));
        for (int far : Bounds.FAR) {
            Bounds.refused(Due.BAD_ARGUMENT, Bounds::busy, "what " + far, t -> ask.of(t, far));
        }
        for (int what = 0; what <= greatest; what++) {
            int asked = what;
            String got = Bounds.outcome(Bounds.busy(), t -> ask.of(t, asked));
            Due.same("false", "" + got.endsWith("Exception"), "what " + what);
            Bounds.unchanged(Bounds::busy, "what " + what, t -> ask.of(t, asked));
        }
    }

    // ---- promise 6

    private static void taughtRecords() {
        Due.answers(0, "without records", () -> Bounds.untouched().about(5));
        Due.answers(0, "all entered", () -> Due.street("R2k000000k000000").about(5));
        Due.answers(39, "all but the first", () -> Bounds.chainOf(40, 0).about(5));
    }

    private static void recordsWithAWrongBit() {
        Due.answers(0, "without records", () -> Bounds.untouched().about(6));
        Due.answers(0, "all taught well", () -> Bounds.chainOf(40, 0).about(6));
        Due.answers(39, "all but the first", () -> Bounds.chainOf(40, 3).about(6));
        // The third teaching from x = 1 has the wrong bit 0.
        TaughtRemotes zero = Due.street("R9k000000n3");
        zero.teach(0, 0, 0, 1);
        zero.teach(0, 0, 0, 1);
        zero.teach(0, 0, 8, 0);
        Due.answers(1, "the wrong bit 0 is one", () -> zero.about(6));
    }

    private static void devicesThatAreOn() {
        Due.answers(0, "without devices", () -> Bounds.untouched().about(7));
        for (int d = 0; d < 6; d++) {
            TaughtRemotes t = new TaughtRemotes();
            for (int i = 0; i < 6; i++) {
                t.addDevice(0, i == d ? 0 : 4095, 0);
            }
            t.enter(0, 0, 0);
            t.enter(0, 1, 4095);
            int only = d;
            t.press(0, 0);
            Due.answers(1 << only, "only device " + d, () -> t.about(7));
            t.press(0, 1);
            Due.answers(63, "all six", () -> t.about(7));
            t.press(0, 0);
            Due.answers(63 - (1 << only), "all but device " + d, () -> t.about(7));
        }
    }

    private static void differentRoots() {
        Due.answers(0, "without records", () -> Bounds.untouched().about(8));
        TaughtRemotes many = Due.street("R9");
        for (int i = 0; i < 40; i++) {
            many.enter(i / 6, i % 6, 7);
        }
        Due.answers(40, "forty roots with the same code", () -> many.about(8));
        Due.answers(1, "forty keys of one root", () -> Bounds.fortyKeysOfOne().about(8));
        TaughtRemotes one = Bounds.chainOf(3, 0);
        one.enter(0, 0, 1);
        Due.answers(2, "the root of a code that is no key's own", () -> one.about(8));
        one.erase(8, 0);
        Due.answers(1, "the keys that have codes now", () -> one.about(8));
        one.erase(0, 0);
        Due.answers(0, "no key has a code", () -> one.about(8));
    }

    private static void greatestGeneration() {
        Due.answers(Due.NONE, "without records", () -> Bounds.untouched().about(9));
        Due.answers(0, "one entered", () -> Bounds.chainOf(1, 0).about(9));
        Due.answers(1, "one taught", () -> Bounds.chainOf(2, 0).about(9));
        Due.answers(39, "forty in a chain", () -> Bounds.chainOf(40, 3).about(9));
        TaughtRemotes erased = Bounds.chainOf(3, 0);
        erased.erase(0, 0);
        erased.erase(8, 0);
        Due.answers(2, "also if no key has it", () -> erased.about(9));
        erased.enter(0, 0, 0);
        Due.answers(2, "also if the last record is entered", () -> erased.about(9));
    }

    // ---- promise 7

    private static void leastAndGreatestOfAKey() {
        TaughtRemotes t = Due.street("R9k000000");
        for (int i = 1; i < 40; i++) {
            t.enter(8, 5, 4095);
        }
        Due.answers(0, "the least code", () -> t.key(0, 0, 0));
        Due.answers(0, "the first record", () -> t.key(0, 0, 1));
        Due.answers(4095, "the greatest code", () -> t.key(8, 5, 0));
        Due.answers(39, "the last record", () -> t.key(8, 5, 1));
    }

    private static void generationsOfKeys() {
        Due.answers(0, "an entered code", () -> Bounds.chainOf(1, 0).key(0, 0, 2));
        Due.answers(1, "a taught code", () -> Bounds.chainOf(2, 0).key(8, 0, 2));
        Due.answers(39, "the last of forty", () -> Bounds.chainOf(40, 3).key(8, 0, 2));
        Due.answers(38, "the one before it", () -> Bounds.chainOf(40, 3).key(0, 0, 2));
    }

    private static void housesOfRoots() {
        TaughtRemotes t = Due.street("R9k000000k800001n0");
        t.teach(0, 0, 8, 1);
        t.teach(8, 0, 0, 1);
        Due.answers(0, "an entered one is its own root", () -> t.key(0, 0, 3));
        Due.answers(8, "an entered one is its own root", () -> t.key(8, 0, 3));
        Due.answers(0, "learned from the first house", () -> t.key(8, 1, 3));
        Due.answers(8, "learned from the last house", () -> t.key(0, 1, 3));
        t.erase(8, 0);
        Due.answers(8, "also if the root's key has no code", () -> t.key(0, 1, 3));
        Due.answers(0, "the root of forty", () -> Bounds.chainOf(40, 3).key(8, 0, 3));
    }

    private static void wrongBitsOfKeys() {
        Due.answers(0, "an entered code", () -> Bounds.chainOf(1, 3).key(0, 0, 4));
        Due.answers(1, "a code with one", () -> Bounds.chainOf(2, 3).key(8, 0, 4));
        Due.answers(0, "all learned well", () -> Bounds.chainOf(40, 0).key(8, 0, 4));
        Due.answers(39, "the same bit counts each time", () -> Bounds.chainOf(40, 3).key(8, 0, 4));
    }

    /** The bits 5, 9, 0, 6, 5 are wrong: after the fifth, the bit 5 is right again. */
    private static void apartFromTheRoot() {
        int[] apart = {0, 1, 2, 3, 4, 3};
        for (int taught = 0; taught < apart.length; taught++) {
            int last = taught;
            Due.answers(apart[taught], taught + " times", () ->
                    Bounds.chainOf(last + 1, 3).key(last % 2 * 8, 0, 5));
        }
        TaughtRemotes erased = Bounds.chainOf(2, 3);
        erased.enter(0, 0, 4095);
        Due.answers(1, "from the root, not from what its key has now", () -> erased.key(8, 0, 5));
    }

    private static void keysWithoutACode() {
        for (int what = 0; what <= 5; what++) {
            int asked = what;
            Due.answers(Due.NONE, "never had one", () -> Bounds.busy().key(1, 0, asked));
            Due.answers(Due.NONE, "erased", () -> Bounds.busy().key(1, 1, asked));
            Due.answers(Due.NONE, "of a new object", () -> Bounds.untouched().key(3, 5, asked));
        }
    }

    private static void whatOfKeys() {
        refusesWhat(5, (t, what) -> t.key(0, 0, what));
        Bounds.refused(Due.BAD_ARGUMENT, Bounds::busy, "what 6 without a code",
                t -> t.key(1, 0, 6));
        Bounds.refused(Due.NO_PLACE, Bounds::busy, "what 6 of no house", t -> t.key(4, 0, 6));
        Bounds.refused(Due.NO_PLACE, Bounds::busy, "what -1 of no key", t -> t.key(0, 6, -1));
    }

    // ---- promise 8

    private static void parents() {
        TaughtRemotes t = Bounds.chainOf(40, 0);
        Due.answers(Due.NONE, "of the root", () -> t.record(0, 0));
        Due.answers(0, "the record 0", () -> t.record(1, 0));
        Due.answers(38, "of the last", () -> t.record(39, 0));
    }

    private static void leastAndGreatestOfARecord() {
        TaughtRemotes t = Due.street("R9k000000");
        for (int i = 1; i < 40; i++) {
            t.enter(8, 5, 4095);
        }
        int[][] want = {{0, 0, 0}, {8, 5, 4095}};
        for (int what = 1; what <= 3; what++) {
            int asked = what;
            Due.answers(want[0][what - 1], "of the first", () -> t.record(0, asked));
            Due.answers(want[1][what - 1], "of the last", () -> t.record(39, asked));
        }
    }

    private static void wrongBitsOfRecords() {
        TaughtRemotes t = Bounds.chainOf(7, 3);
        int[] want = {Due.NONE, 5, 9, 0, 6, 5, 11};
        for (int i = 0; i < want.length; i++) {
            int record = i;
            Due.answers(want[i], "of record " + i, () -> t.record(record, 4));
        }
        Due.answers(Due.NONE, "taught well", () -> Bounds.chainOf(2, 0).record(1, 4));
    }

    private static void children() {
        Due.answers(0, "of the only one", () -> Bounds.chainOf(1, 0).record(0, 5));
        TaughtRemotes chain = Bounds.chainOf(40, 0);
        Due.answers(1, "of the root of a chain", () -> chain.record(0, 5));
        Due.answers(1, "of the last but one", () -> chain.record(38, 5));
        Due.answers(0, "of the last", () -> chain.record(39, 5));
        Due.answers(39, "of one that taught all others",
                () -> Bounds.fortyKeysOfOne().record(0, 5));
    }

    private static void keysFromARecord() {
        TaughtRemotes forty = Bounds.fortyKeysOfOne();
        Due.answers(40, "forty keys", () -> forty.record(0, 6));
        Due.answers(1, "its own key alone", () -> forty.record(39, 6));
        forty.erase(0, 0);
        Due.answers(39, "without its own key", () -> forty.record(0, 6));
        TaughtRemotes chain = Bounds.chainOf(40, 0);
        Due.answers(2, "the far end of a chain", () -> chain.record(0, 6));
        Due.answers(2, "the last but one", () -> chain.record(38, 6));
        Due.answers(1, "the last", () -> chain.record(39, 6));
        chain.erase(0, 0);
        chain.erase(8, 0);
        Due.answers(0, "no keys", () -> chain.record(0, 6));
        Due.answers(0, "no keys", () -> chain.record(39, 6));
    }

    private static void noSuchRecord() {
        Bounds.refused(Due.NO_PLACE, Bounds::busy, "record -1", t -> t.record(-1, 0));
        Bounds.refused(Due.NO_PLACE, Bounds::busy, "record 7 of seven", t -> t.record(7, 0));
        Bounds.refused(Due.NO_PLACE, Bounds::busy, "record 39 of seven", t -> t.record(39, 0));
        Bounds.refused(Due.NO_PLACE, Bounds::fullOfRecords, "record 40", t -> t.record(40, 0));
        Bounds.refused(Due.NO_PLACE, Bounds::untouched, "record 0 of none", t -> t.record(0, 0));
        for (int far : Bounds.FAR) {
            Bounds.refused(Due.NO_PLACE, Bounds::busy, "record " + far, t -> t.record(far, 0));
        }
        Due.answers(6, "record 6 of seven", () -> Bounds.busy().key(2, 0, 1));
        Due.answers(2, "it is there", () -> Bounds.busy().record(6, 1));
        Due.answers(39, "record 39 of forty is there", () -> Bounds.fullOfRecords().record(39, 3));
        TaughtRemotes undone = Bounds.untouched();
        undone.enter(0, 0, 0);
        undone.undo();
        Due.same(Due.NO_PLACE.getName(), Bounds.outcome(undone, t -> t.record(0, 0)),
                "a record that is taken back");
    }

    private static void whatOfRecords() {
        refusesWhat(6, (t, what) -> t.record(6, what));
        Bounds.refused(Due.NO_PLACE, Bounds::busy, "what 7 of no record", t -> t.record(7, 7));
        Bounds.refused(Due.NO_PLACE, Bounds::busy, "what -1 of no record", t -> t.record(-1, -1));
    }

    // ---- promise 9

    private static void leastAndGreatestOfADevice() {
        TaughtRemotes t = Due.street("R9d000000d000000d000000d000000d000000d840953");
        int[] want = {8, 4095, 3};
        for (int what = 0; what <= 2; what++) {
            int asked = what;
            Due.answers(0, "of the first", () -> t.device(0, asked));
            Due.answers(want[what], "of the last", () -> t.device(5, asked));
        }
        Bounds.refused(Due.NO_PLACE, Bounds::busy, "what 5 of no device", s -> s.device(4, 5));
        Bounds.refused(Due.NO_PLACE, Bounds::busy, "what -1 of no device", s -> s.device(-1, -1));
    }

    private static void onAndOff() {
        TaughtRemotes t = Due.street("R2k000000d040950d000000d040950d040950d040950d000000");
        int[] on = {0, 1, 0, 0, 0, 1};
        for (int d = 0; d < 6; d++) {
            int device = d;
            Due.answers(0, "at first", () -> t.device(device, 3));
        }
        t.press(0, 0);
        for (int d = 0; d < 6; d++) {
            int device = d;
            Due.answers(on[d], "when pressed", () -> t.device(device, 3));
        }
    }

    private static void keysOfAllHouses() {
        Due.answers(0, "no key has a code", () -> Due.street("R9d000003").device(0, 4));
        TaughtRemotes all = Bounds.fortyKeysOfOne();
        all.set(1, 0);
        all.addDevice(8, 0, 0);
        Due.answers(40, "forty keys", () -> all.device(0, 4));
        TaughtRemotes ends = Due.street("R9k000007k850007k400003d000070d800060s0");
        Due.answers(2, "of both ends, from the one", () -> ends.device(0, 4));
        ends.setTolerance(0, 1);
        Due.answers(3, "just tolerant enough", () -> ends.device(0, 4));
        ends.setTolerance(1, 1);
        Due.answers(2, "not tolerant enough for 3, which is two bits apart",
                () -> ends.device(1, 4));
        ends.setTolerance(1, 2);
        Due.answers(3, "then it is", () -> ends.device(1, 4));
        Due.answers(0, "the reach is as it was", () -> ends.about(4));
    }

    // ---- promise 10

    private static void placeZero() {
        Due.answers(0, "of an entered code", () -> Bounds.chainOf(1, 0).trace(0, 0, 0));
        Due.answers(39, "of the last", () -> Bounds.chainOf(40, 0).trace(8, 0, 0));
    }

    private static void allPlaces() {
        TaughtRemotes t = Bounds.chainOf(40, 3);
        t.erase(0, 0);
        for (int i = 0; i < 40; i++) {
            int place = i;
            Due.answers(39 - i, "place " + i, () -> t.trace(8, 0, place));
        }
    }

    private static void noSuchPlace() {
        Due.answers(Due.NONE, "behind the only one", () -> Bounds.chainOf(1, 0).trace(0, 0, 1));
        Due.answers(Due.NONE, "behind forty", () -> Bounds.chainOf(40, 0).trace(8, 0, 40));
        Due.answers(Due.NONE, "behind thirty-nine", () -> Bounds.chainOf(40, 0).trace(0, 0, 39));
        for (int i : new int[] {41, 1000000, Integer.MAX_VALUE}) {
            Due.answers(Due.NONE, "place " + i, () -> Bounds.chainOf(40, 0).trace(8, 0, i));
        }
        Due.answers(Due.NONE, "no code", () -> Bounds.busy().trace(1, 0, 0));
        Due.answers(Due.NONE, "an erased code", () -> Bounds.busy().trace(1, 1, 0));
        Due.answers(Due.NONE, "no code, far", () -> Bounds.busy().trace(1, 1, Integer.MAX_VALUE));
    }

    private static void negativePlaces() {
        for (int i : new int[] {-1, -2, Due.NONE, Integer.MIN_VALUE}) {
            Bounds.refused(Due.BAD_ARGUMENT, Bounds::busy, "place " + i, t -> t.trace(0, 0, i));
            Bounds.refused(Due.BAD_ARGUMENT, Bounds::busy, "place " + i + " without a code",
                    t -> t.trace(1, 0, i));
            Bounds.refused(Due.NO_PLACE, Bounds::busy, "place " + i + " of no house",
                    t -> t.trace(4, 0, i));
        }
    }

    // ---- promises 11 and 12

    private static void nearestToTheRoot() {
        Due.answers(1, "the only wrong one", () -> Bounds.chainOf(2, 3).wentWrong(8, 0));
        Due.answers(1, "the first of 39 wrong ones", () -> Bounds.chainOf(40, 3).wentWrong(8, 0));
        TaughtRemotes late = Bounds.chainOf(39, 0);
        late.set(0, 3);
        late.teach(0, 0, 8, 0);
        Due.answers(39, "the last of forty alone", () -> late.wentWrong(8, 0));
        TaughtRemotes again = Bounds.chainOf(6, 3);
        Due.answers(1, "also if the bit is right again", () -> again.wentWrong(8, 0));
    }

    private static void neverWentWrong() {
        Due.answers(Due.NONE, "an entered code", () -> Bounds.chainOf(1, 3).wentWrong(0, 0));
        Due.answers(Due.NONE, "forty learned well", () -> Bounds.chainOf(40, 0).wentWrong(8, 0));
        Due.answers(Due.NONE, "no code", () -> Bounds.busy().wentWrong(1, 0));
        TaughtRemotes erased = Bounds.chainOf(2, 3);
        erased.erase(8, 0);
        Due.answers(Due.NONE, "an erased code", () -> erased.wentWrong(8, 0));
    }

    private static void greatestInBothChains() {
        TaughtRemotes chain = Bounds.chainOf(40, 0);
        Due.answers(39, "a key and itself", () -> chain.common(8, 0, 8, 0));
        Due.answers(38, "one is in the chain of the other", () -> chain.common(8, 0, 0, 0));
        Due.answers(38, "the other way about", () -> chain.common(0, 0, 8, 0));
        TaughtRemotes ends = Due.street("R2k000000n0");
        for (int i = 1; i < 40; i++) {
            ends.teach(0, i == 1 ? 0 : 2 - i % 2, 0, 1 + i % 2);
        }
        Due.answers(0, "the last of forty and the root", () -> ends.common(0, 2, 0, 0));
        Due.answers(0, "the root and the last of forty", () -> ends.common(0, 0, 0, 2));
        TaughtRemotes many = Bounds.fortyKeysOfOne();
        Due.answers(0, "the record 0 alone", () -> many.common(0, 1, 6, 3));
        Due.answers(0, "it is one of the two", () -> many.common(0, 0, 6, 3));
    }

    private static void nothingInCommon() {
        Due.answers(Due.NONE, "two roots with one code",
                () -> Due.street("R2k000007k010007").common(0, 0, 0, 1));
        Due.answers(Due.NONE, "the first has no code", () -> Bounds.busy().common(1, 0, 0, 0));
        Due.answers(Due.NONE, "the second has no code", () -> Bounds.busy().common(0, 0, 1, 0));
        Due.answers(Due.NONE, "neither has", () -> Bounds.busy().common(1, 0, 1, 1));
        Due.answers(Due.NONE, "a key without a code and itself",
                () -> Bounds.busy().common(1, 0, 1, 0));
    }

    private static void noSuchKeyInCommon() {
        refusesKeys((t, h, k) -> t.common(h, k, 0, 0));
        refusesKeys((t, h, k) -> t.common(0, 0, h, k));
        refusesKeys((t, h, k) -> t.common(h, k, h, k));
        Bounds.refused(Due.NO_PLACE, Bounds::busy, "no such key, the other one without a code",
                t -> t.common(1, 0, 0, 6));
    }

    // ---- promise 13

    private static void fromNoneToAllAccept() {
        Due.answers(0, "no devices", () -> Due.street("R2k000000").accepted(0, 0));
        for (int d = 0; d < 6; d++) {
            TaughtRemotes t = Due.street("R9k850000k800001");
            for (int i = 0; i < 6; i++) {
                t.addDevice(8, i == d ? 0 : 1, 0);
            }
            Due.answers(1 << d, "device " + d + " alone", () -> t.accepted(8, 5));
            Due.answers(63 - (1 << d), "all but device " + d, () -> t.accepted(8, 0));
            t.setTolerance(d, 1);
            Due.answers(63, "all six", () -> t.accepted(8, 0));
        }
        Bounds.unchanged(Bounds::busy, "accepted", t -> t.accepted(0, 0));
    }

    private static void nobodyAcceptsNoCode() {
        TaughtRemotes t = Due.street("R2k000000s8d040870d000073d000000d040953d000093d040873");
        Due.answers(0, "never had one", () -> t.accepted(1, 0));
        t.erase(0, 0);
        Due.answers(0, "erased", () -> t.accepted(0, 0));
    }
}
