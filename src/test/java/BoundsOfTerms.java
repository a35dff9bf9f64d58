/** Boundary cases of the terms: houses, keys and codes; teaching; devices; the constant. */
final class BoundsOfTerms {
    private static final String TERMS = "Terms";

    private BoundsOfTerms() {
    }

    static void run() {
        Bounds.sentence("What it is", "An object is used for at most 512 calls after it has been "
                + "made", BoundsOfTerms::theLastOf512Calls);
        Bounds.sentence(TERMS, "The constants: NONE = -9: There is no such result.",
                BoundsOfTerms::noSuchResult);
        houses();
        teaching();
        devices();
    }

    private static void houses() {
        Bounds.sentence(TERMS, "The street has 2 to 9 houses, numbered from 0 along it, at first 4.",
                BoundsOfTerms::numbersOfHouses);
        Bounds.sentence(TERMS, "Each house has a remote control with the keys 0 to 5.",
                BoundsOfTerms::firstAndLastKeys);
        Bounds.sentence(TERMS, "A code is a number from 0 to 4095, that is 12 bits",
                BoundsOfTerms::leastAndGreatestCodes);
        Bounds.sentence(TERMS, "the bit b with the value 1 << b", BoundsOfTerms::valuesOfAllBits);
        Bounds.sentence(TERMS, "two codes are apart by the number of bits in which they differ",
                BoundsOfTerms::apartByNoneToTwelveBits);
        Bounds.sentence(TERMS, "A key has a code or none (at first none).",
                BoundsOfTerms::noCodesAtFirst);
        Bounds.sentence(TERMS, "Records are numbered from 0 in the order in which they are made, "
                + "at most 40.", BoundsOfTerms::fortyRecords);
        Bounds.sentence(TERMS, "a parent (a record) or none", BoundsOfTerms::parentZeroOrNone);
        Bounds.sentence(TERMS, "and a wrong bit (0 to 11) or none",
                BoundsOfTerms::wrongBitsZeroAndElevenAndNone);
        Bounds.sentence(TERMS, "A record without a parent was entered.",
                BoundsOfTerms::withoutParentWasEntered);
        Bounds.sentence(TERMS, "The generation of a record is 0 if it has no parent, otherwise 1 "
                + "more than that of its parent.", BoundsOfTerms::generationsFromZeroTo39);
        Bounds.sentence(TERMS, "The chain of a record is this record, its parent, the parent of "
                + "that, and so on; the last one is its root.", BoundsOfTerms::chainsOfOneAndOfForty);
        Bounds.sentence(TERMS, "Records stay also when their keys get other codes.",
                BoundsOfTerms::recordsStay);
    }

    private static void teaching() {
        Bounds.sentence(TERMS, "The noise is from 0 to 3, at first 1.",
                BoundsOfTerms::leastAndGreatestNoise);
        Bounds.sentence(TERMS, "The object has a long x, at first 1.", BoundsOfTerms::xAtFirst);
        Bounds.sentence(TERMS, "When a key of a house teaches a key of another house (or of its "
                + "own), x is replaced", BoundsOfTerms::xGoesOnWithinAHouse);
        Bounds.sentence(TERMS, "x is replaced by x * 6364136223846793005L + 1442695040888963407L "
                + "(with long overflow)", BoundsOfTerms::xWrapsAround);
        Bounds.sentence(TERMS, "and r = (int) (x >>> 33) is computed",
                BoundsOfTerms::rIsNeverNegative);
        Bounds.sentence(TERMS, "If r % 10 is less than the noise times the difference of the "
                + "numbers of both houses", BoundsOfTerms::lessThanNoiseTimesDifference);
        Bounds.sentence(TERMS, "the bit r / 16 % 12 of the code is wrong: it is changed",
                BoundsOfTerms::changedEitherWay);
        Bounds.sentence(TERMS, "with the record of the code that is taught as its parent, and with "
                + "this wrong bit (or none)", BoundsOfTerms::aRecordIsMadeAlsoWithoutWrongBit);
        Bounds.sentence(TERMS, "The key that learns has the code of this record then.",
                BoundsOfTerms::learnsWithAndWithoutACode);
    }

    private static void devices() {
        Bounds.sentence(TERMS, "There are at most 6 devices, numbered from 0 in the order in which "
                + "they were added.", BoundsOfTerms::sixDevices);
        Bounds.sentence(TERMS, "A device is in a house, has a code, a tolerance from 0 to 3",
                BoundsOfTerms::leastAndGreatestDevices);
        Bounds.sentence(TERMS, "and is on or off (at first off)", BoundsOfTerms::offAtFirst);
        Bounds.sentence(TERMS, "The reach is from 0 to 8, at first 2.",
                BoundsOfTerms::leastAndGreatestReach);
        Bounds.sentence(TERMS, "each device whose house has a number that differs from that of the "
                + "remote control by the reach at most", BoundsOfTerms::justWithinTheReach);
        Bounds.sentence(TERMS, "whose code is apart from the code of the key by its tolerance at "
                + "most", BoundsOfTerms::justWithinTheTolerance);
        Bounds.sentence(TERMS, "if it is on, it is off then, and the other way about",
                BoundsOfTerms::switchedEitherWay);
    }

    private static void theLastOf512Calls() {
        TaughtRemotes t = new TaughtRemotes();
        for (int i = 0; i < 510; i++) {
            t.set(1, i % 9);
        }
        Due.answers(13, "the call 511", t::undo);
        Due.answers(508 % 9, "the call 512", () -> t.about(4));
    }

    private static void noSuchResult() {
        Due.answers(-9, "NONE", () -> TaughtRemotes.NONE);
        Due.answers(-9, "the code of no code", () -> new TaughtRemotes().key(0, 0, 0));
    }

    // ---- houses, keys and codes

    private static void numbersOfHouses() {
        Due.answers(4, "houses at first", () -> new TaughtRemotes().about(0));
        Bounds.refused(Due.NO_PLACE, Bounds::untouched, "house 4 at first", t -> t.erase(4, 0));
        Bounds.position(1, "R0");
        Bounds.position(1, "R1");
        Bounds.position(2, "R20");
        for (int n = 2; n <= 9; n++) {
            int houses = n;
            TaughtRemotes t = Due.street("R" + n);
            Due.answers(n, "houses of " + n, () -> t.about(0));
            Due.answers(0, "in the first of " + n, () -> t.enter(0, 0, 1));
            Due.answers(1, "in the last of " + n, () -> t.enter(houses - 1, 0, 2));
            Bounds.refused(Due.NO_PLACE, () -> Due.street("R" + houses), "behind the last of " + n,
                    s -> s.enter(houses, 0, 3));
            Bounds.refused(Due.NO_PLACE, () -> Due.street("R" + houses), "before the first of " + n,
                    s -> s.enter(-1, 0, 3));
        }
    }

    private static void firstAndLastKeys() {
        TaughtRemotes t = Due.street("R9");
        for (int i = 0; i < 36; i++) {
            t.enter(i / 6 + 3, i % 6, i);
        }
        for (int i = 0; i < 36; i++) {
            int key = i;
            Due.answers(i, "the code of key " + i % 6, () -> t.key(key / 6 + 3, key % 6, 0));
        }
        Due.answers(Due.NONE, "the last key of the house before", () -> t.key(2, 5, 0));
        for (int h = 0; h < 4; h += 3) {
            int house = h;
            Bounds.refused(Due.NO_PLACE, Bounds::busy, "key -1", s -> s.enter(house, -1, 1));
            Bounds.refused(Due.NO_PLACE, Bounds::busy, "key 6", s -> s.enter(house, 6, 1));
        }
    }

    private static void leastAndGreatestCodes() {
        TaughtRemotes t = new TaughtRemotes();
        t.enter(0, 0, 0);
        t.enter(0, 1, 4095);
        t.addDevice(0, 0, 0);
        t.addDevice(0, 4095, 0);
        Due.answers(0, "the least code of a key", () -> t.key(0, 0, 0));
        Due.answers(4095, "the greatest code of a key", () -> t.key(0, 1, 0));
        Due.answers(0, "the least code of a device", () -> t.device(0, 1));
        Due.answers(4095, "the greatest code of a device", () -> t.device(1, 1));
        for (int code : new int[] {-1, 4096, 4096 + 4095, -4096}) {
            Bounds.refused(Due.BAD_ARGUMENT, Bounds::busy, "enter " + code,
                    s -> s.enter(0, 0, code));
            Bounds.refused(Due.BAD_ARGUMENT, Bounds::busy, "addDevice " + code,
                    s -> s.addDevice(0, code, 0));
        }
    }

    /** Among the first teachings from x = 1 there is one for each of the bits 0 to 11. */
    private static void valuesOfAllBits() {
        boolean[] seen = new boolean[12];
        TaughtRemotes t = Due.street("R9k000000n3");
        for (int i = 0; i < 39; i++) {
            int bit = Dice.bit(Dice.after(i));
            seen[bit] = true;
            Due.answers(1 << bit, "the bit " + bit, () -> t.teach(0, 0, 8, 0));
        }
        for (int b = 0; b < 12; b++) {
            Due.same("true", "" + seen[b], "the bit " + b + " was among them");
        }
    }

    /** A bit that was not yet wrong is learned far away, the others at home, until all are. */
    private static void apartByNoneToTwelveBits() {
        TaughtRemotes t = Due.street("R9k000000n3");
        Due.answers(0, "apart from itself", () -> t.key(0, 0, 5));
        int house = 0;
        int code = 0;
        for (int i = 0; i < 39 && code != 4095; i++) {
            int bit = 1 << Dice.bit(Dice.after(i));
            int to = (code & bit) == 0 ? 8 - house : house;
            code |= bit;
            t.teach(house, i % 2, to, 1 - i % 2);
            house = to;
            int at = house;
            int key = 1 - i % 2;
            Due.answers(Integer.bitCount(code), "bits apart", () -> t.key(at, key, 5));
        }
        Due.same("4095", "" + code, "all twelve bits");
    }

    private static void noCodesAtFirst() {
        TaughtRemotes t = Due.street("R9");
        for (int i = 0; i < 54; i++) {
            int key = i;
            Due.answers(Due.NONE, "the code of a new key", () -> t.key(key / 6, key % 6, 0));
        }
        Due.answers(0, "then it has one", () -> {
            t.enter(8, 5, 0);
            return t.key(8, 5, 0);
        });
    }

    private static void fortyRecords() {
        TaughtRemotes t = new TaughtRemotes();
        for (int i = 0; i < 40; i++) {
            int code = 100 + i;
            Due.answers(i, "the number of a record", () -> t.enter(0, code % 6, code));
        }
        Due.answers(40, "records", () -> t.about(2));
        Due.answers(100, "the first", () -> t.record(0, 3));
        Due.answers(139, "the last", () -> t.record(39, 3));
        Bounds.refused(Due.NO_PLACE, Bounds::fullOfRecords, "record 40", s -> s.record(40, 0));
        Bounds.refused(Due.BAD_STATE, Bounds::fullOfRecords, "one more entered",
                s -> s.enter(0, 0, 1));
        Bounds.refused(Due.BAD_STATE, Bounds::fullOfRecords, "one more taught",
                s -> s.teach(0, 0, 1, 0));
    }

    private static void parentZeroOrNone() {
        TaughtRemotes t = Bounds.chainOf(3, 3);
        Due.answers(Due.NONE, "of the first", () -> t.record(0, 0));
        Due.answers(0, "of the second", () -> t.record(1, 0));
        Due.answers(1, "of the third", () -> t.record(2, 0));
    }

    private static void wrongBitsZeroAndElevenAndNone() {
        TaughtRemotes t = Bounds.chainOf(40, 3);
        int met = 0;
        for (int i = 1; i < 40; i++) {
            int record = i;
            int bit = Dice.bit(Dice.after(i - 1));
            met |= 1 << bit;
            Due.answers(bit, "the wrong bit of " + i, () -> t.record(record, 4));
        }
        Due.same("4095", "" + met, "all bits, 0 and 11 among them");
        Due.answers(Due.NONE, "of an entered record", () -> t.record(0, 4));
        Due.answers(Due.NONE, "of a record taught well", () -> Bounds.chainOf(2, 0).record(1, 4));
    }

    private static void withoutParentWasEntered() {
        TaughtRemotes t = Due.street("R4k000001");
        t.enter(1, 1, 1);
        t.teach(1, 1, 1, 2);
        Due.answers(Due.NONE, "told in a text", () -> t.record(0, 0));
        Due.answers(Due.NONE, "entered", () -> t.record(1, 0));
        Due.answers(1, "taught", () -> t.record(2, 0));
        Due.answers(1, "records that were taught", () -> t.about(5));
    }

    private static void generationsFromZeroTo39() {
        for (int records = 1; records <= 40; records++) {
            int last = records - 1;
            TaughtRemotes t = Bounds.chainOf(records, 1);
            Due.answers(last, "of the last of " + records, () -> t.key(last % 2 * 8, 0, 2));
        }
    }

    private static void chainsOfOneAndOfForty() {
        TaughtRemotes one = Bounds.chainOf(1, 0);
        Due.answers(0, "the only one", () -> one.trace(0, 0, 0));
        Due.answers(Due.NONE, "behind the only one", () -> one.trace(0, 0, 1));
        Due.answers(0, "the root of the root is itself", () -> one.key(0, 0, 3));
        TaughtRemotes forty = Bounds.chainOf(40, 0);
        for (int i = 0; i < 40; i++) {
            int place = i;
            Due.answers(39 - i, "the place " + i, () -> forty.trace(8, 0, place));
        }
        Due.answers(Due.NONE, "behind the root", () -> forty.trace(8, 0, 40));
        Due.answers(0, "the house of the root", () -> forty.key(8, 0, 3));
    }

    private static void recordsStay() {
        TaughtRemotes t = Due.street("R4k000007n0");
        t.teach(0, 0, 1, 0);
        t.enter(0, 0, 8);
        t.teach(0, 0, 1, 0);
        t.erase(0, 0);
        t.erase(1, 0);
        int[][] want = {{Due.NONE, 0, 7}, {0, 1, 7}, {Due.NONE, 0, 8}, {2, 1, 8}};
        Due.answers(4, "records", () -> t.about(2));
        for (int i = 0; i < 4; i++) {
            int record = i;
            Due.answers(want[i][0], "the parent of " + i, () -> t.record(record, 0));
            Due.answers(want[i][1], "the house of " + i, () -> t.record(record, 1));
            Due.answers(want[i][2], "the code of " + i, () -> t.record(record, 3));
        }
    }

    // ---- teaching

    private static void leastAndGreatestNoise() {
        Due.answers(1, "at first", () -> new TaughtRemotes().about(3));
        Due.answers(1, "of a text that tells none", () -> Due.street("R2").about(3));
        for (int noise = 0; noise <= 3; noise++) {
            int v = noise;
            TaughtRemotes t = new TaughtRemotes();
            Due.answers(1, "set", () -> t.set(0, v));
            Due.answers(v, "the noise then", () -> t.about(3));
            Due.answers(v, "told in a text", () -> Due.street("R2n" + v).about(3));
        }
        Bounds.refused(Due.BAD_ARGUMENT, Bounds::busy, "noise -1", t -> t.set(0, -1));
        Bounds.refused(Due.BAD_ARGUMENT, Bounds::busy, "noise 4", t -> t.set(0, 4));
        Bounds.position(3, "R2n4");
    }

    /** From x = 1, r % 10 is 4 and the bit is 5. */
    private static void xAtFirst() {
        TaughtRemotes t = new TaughtRemotes();
        t.enter(0, 0, 0);
        t.set(0, 2);
        int[] want = {0, 0, 0, 32};
        for (int to = 1; to < 4; to++) {
            int house = to;
            Due.answers(want[to], "taught over " + to, () -> t.wouldBe(0, 0, house));
        }
        TaughtRemotes all = Due.street("R9k000000n3");
        for (int i = 0; i < 39; i++) {
            int bit = Dice.bit(Dice.after(i));
            Due.answers(1 << bit, "teaching " + i, () -> all.teach(0, 0, 8, 0));
        }
    }

    private static void xGoesOnWithinAHouse() {
        for (int before = 0; before < 10; before++) {
            TaughtRemotes t = Due.street("R9k000000n3");
            for (int i = 0; i < before; i++) {
                Due.answers(0, "no bit is wrong at home", () -> t.teach(0, 0, 0, 1));
            }
            int bit = Dice.bit(Dice.after(before));
            Due.answers(1 << bit, "after " + before, () -> t.teach(0, 0, 8, 0));
        }
    }

    /** The seeds at the ends of long, and those whose product is far beyond them. */
    private static void xWrapsAround() {
        long[] seeds = {1, 0, -1, Long.MAX_VALUE, Long.MIN_VALUE, Long.MAX_VALUE - 1,
            Long.MIN_VALUE + 1, 1L << 32, -(1L << 32), 6364136223846793005L};
        TaughtRemotes t = Due.street("R2k000000n3");
        for (long seed : seeds) {
            for (int m = 1; m <= 12; m++) {
                Dice dice = new Dice(seed);
                int want = 0;
                for (int i = 0; i < m; i++) {
                    want += Dice.isWrong(dice.next(), 3, 1) ? 1 : 1000;
                }
                int times = m;
                Due.answers(want, "simulate from " + seed, () -> t.simulate(0, 0, seed, times));
            }
        }
    }

    /** With a sign, r % 10 would be less than any distance for half of all x. */
    private static void rIsNeverNegative() {
        TaughtRemotes t = Due.street("R2k000000n1");
        for (int i = 0; i < 39; i++) {
            int r = Dice.after(i);
            int want = Dice.learned(0, r, 1, 1);
            Due.answers(want, "teaching " + i, () -> t.teach(0, 0, 1, 0));
        }
        TaughtRemotes silent = Due.street("R9k000000n0");
        for (int i = 0; i < 39; i++) {
            Due.answers(0, "without noise", () -> silent.teach(0, 0, 8, 0));
        }
    }

    /** Each noise over each distance, both ways, also where both numbers are the same. */
    private static void lessThanNoiseTimesDifference() {
        int same = 0;
        int oneLess = 0;
        for (int i = 0; i < 4 * 9 * 30; i++) {
            int noise = i % 4;
            int distance = i / 4 % 9;
            int before = i / 36;
            int r = Dice.after(before);
            same += r % 10 == noise * distance ? 1 : 0;
            oneLess += r % 10 == noise * distance - 1 ? 1 : 0;
            int want = Dice.learned(0, r, noise, distance);
            String what = "noise " + noise + " over " + distance + " after " + before;
            Due.answers(want, what, () -> taught("R9k000000n" + noise, before, 0, distance));
            Due.answers(want, what + " back",
                    () -> taught("R9k800000n" + noise, before, 8, 8 - distance));
        }
        Due.same("true", "" + (same > 30 && oneLess > 30), "the edges were met");
    }

    private static int taught(String text, int before, int from, int to) {
        TaughtRemotes t = Due.street(text);
        for (int i = 0; i < before; i++) {
            t.teach(from, 0, from, 1);
        }
        return t.teach(from, 0, to, 2);
    }

    private static void changedEitherWay() {
        for (int i = 0; i < 20; i++) {
            int bit = 1 << Dice.bit(Dice.after(i));
            int before = i;
            Due.answers(bit, "a 0 becomes a 1", () -> taught("R9k000000n3", before, 0, 8));
            Due.answers(4095 - bit, "a 1 becomes a 0", () -> taught("R9k004095n3", before, 0, 8));
        }
    }

    private static void aRecordIsMadeAlsoWithoutWrongBit() {
        TaughtRemotes t = Due.street("R9k000005k110006n3");
        t.teach(1, 1, 1, 2);
        t.teach(1, 2, 8, 5);
        int[][] want = {{1, 1, 2, 6, Due.NONE}, {2, 8, 5, 6 ^ 512, 9}};
        for (int i = 0; i < 10; i++) {
            int row = i / 5;
            int what = i % 5;
            Due.answers(want[row][what], "record " + (2 + row) + " " + what,
                    () -> t.record(2 + row, what));
        }
    }

    private static void learnsWithAndWithoutACode() {
        TaughtRemotes t = Due.street("R4k000005k010006n0");
        Due.answers(5, "a key without a code", () -> t.teach(0, 0, 3, 5));
        Due.answers(2, "its record", () -> t.key(3, 5, 1));
        Due.answers(5, "a key with a code", () -> t.teach(0, 0, 0, 1));
        Due.answers(3, "its record", () -> t.key(0, 1, 1));
        Due.answers(0, "the key that taught", () -> t.key(0, 0, 1));
    }

    // ---- devices

    private static void sixDevices() {
        TaughtRemotes t = new TaughtRemotes();
        for (int d = 0; d < 6; d++) {
            int code = 50 + d;
            Due.answers(d, "the number of a device", () -> t.addDevice(0, code, 0));
        }
        for (int d = 0; d < 6; d++) {
            int device = d;
            Due.answers(50 + d, "the code of device " + d, () -> t.device(device, 1));
        }
        Due.answers(6, "devices", () -> t.about(1));
        Bounds.refused(Due.NO_PLACE, Bounds::fullOfDevices, "device 6", s -> s.device(6, 0));
        Bounds.refused(Due.BAD_STATE, Bounds::fullOfDevices, "one more",
                s -> s.addDevice(0, 0, 0));
    }

    private static void leastAndGreatestDevices() {
        TaughtRemotes t = Due.street("R9");
        t.addDevice(0, 0, 0);
        t.addDevice(8, 4095, 3);
        int[][] want = {{0, 0, 0}, {8, 4095, 3}};
        for (int i = 0; i < 6; i++) {
            int d = i / 3;
            int what = i % 3;
            Due.answers(want[d][what], "device " + d + " " + what, () -> t.device(d, what));
        }
        Bounds.refused(Due.BAD_ARGUMENT, Bounds::busy, "tolerance -1",
                s -> s.addDevice(0, 0, -1));
        Bounds.refused(Due.BAD_ARGUMENT, Bounds::busy, "tolerance 4", s -> s.addDevice(0, 0, 4));
    }

    private static void offAtFirst() {
        TaughtRemotes t = Due.street("R2k000000d000000");
        Due.answers(0, "told in a text", () -> t.device(0, 3));
        t.press(0, 0);
        Due.answers(1, "device 0 is on", () -> t.device(0, 3));
        t.addDevice(0, 0, 0);
        Due.answers(0, "added when another one is on", () -> t.device(1, 3));
        t.press(0, 0);
        Due.answers(0b10, "the other way about", () -> t.about(7));
        t.undo();
        t.undo();
        t.addDevice(0, 0, 0);
        Due.answers(0b01, "added where one was taken back", () -> t.about(7));
    }

    private static void leastAndGreatestReach() {
        Due.answers(2, "at first", () -> new TaughtRemotes().about(4));
        Due.answers(2, "of a text that tells none", () -> Due.street("R2").about(4));
        for (int reach = 0; reach <= 8; reach++) {
            int v = reach;
            TaughtRemotes t = new TaughtRemotes();
            Due.answers(2, "set", () -> t.set(1, v));
            Due.answers(v, "the reach then", () -> t.about(4));
            Due.answers(v, "told in a text", () -> Due.street("R2s" + v).about(4));
        }
        Bounds.refused(Due.BAD_ARGUMENT, Bounds::busy, "reach -1", t -> t.set(1, -1));
        Bounds.refused(Due.BAD_ARGUMENT, Bounds::busy, "reach 9", t -> t.set(1, 9));
        Bounds.position(3, "R2s9");
    }

    /** Each house for the remote control, each for the device, each reach. */
    private static void justWithinTheReach() {
        for (int i = 0; i < 9 * 9 * 9; i++) {
            int from = i % 9;
            int to = i / 9 % 9;
            int reach = i / 81;
            int want = Math.abs(from - to) <= reach ? 1 : 0;
            TaughtRemotes t = Due.street("R9k" + from + "00000d" + to + "00000s" + reach);
            String what = "from " + from + " to " + to + " with reach " + reach;
            Due.answers(want, "accepted " + what, () -> t.accepted(from, 0));
            Due.answers(want, "press " + what, () -> t.press(from, 0));
            Due.answers(want, "on " + what, () -> t.about(7));
        }
    }

    /** None to all twelve bits apart: devices 0 to 2 have the code 0, devices 3 to 5 have 4095. */
    private static void justWithinTheTolerance() {
        for (int i = 0; i < 13 * 4; i++) {
            int bits = i % 13;
            int tolerance = i / 13;
            TaughtRemotes t = new TaughtRemotes();
            t.enter(0, 0, (1 << bits) - 1);
            t.enter(0, 1, 4095 - t.key(0, 0, 0));
            for (int d = 0; d < 6; d++) {
                t.addDevice(d % 3, d / 3 * 4095, tolerance);
            }
            int near = bits <= tolerance ? 1 : 0;
            int far = 12 - bits <= tolerance ? 1 : 0;
            String what = bits + " bits with tolerance " + tolerance;
            Due.answers(0b000111 * near + 0b111000 * far, "accepted, " + what,
                    () -> t.accepted(0, 0));
            Due.answers(0b111000 * near + 0b000111 * far, "press, " + what,
                    () -> t.press(0, 1));
        }
    }

    private static void switchedEitherWay() {
        TaughtRemotes t = Due.street("R2k000000k010007d000000d000073d000070");
        Due.answers(0b011, "press 0", () -> t.press(0, 0));
        Due.answers(0b011, "0 and 1 are on", () -> t.about(7));
        Due.answers(0b110, "press 7", () -> t.press(0, 1));
        Due.answers(0b101, "1 is off again, 2 is on", () -> t.about(7));
        Due.answers(0b011, "press 0 once more", () -> t.press(0, 0));
        Due.answers(0b110, "0 is off, 1 is on again", () -> t.about(7));
    }
}
