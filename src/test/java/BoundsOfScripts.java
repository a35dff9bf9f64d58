/** Boundary cases of the promises 26 and 27. */
final class BoundsOfScripts {
    private BoundsOfScripts() {
    }

    static void run() {
        scripts();
        commands();
        simulations();
    }

    private static void scripts() {
        Bounds.sentence("Promise 26", "Runs a script on a copy of the state.",
                BoundsOfScripts::onACopy);
        Bounds.sentence("Promise 26", "A script has 1 to 3 commands",
                BoundsOfScripts::fromOneToThreeCommands);
        Bounds.sentence("Promise 26", "each is a group of five decimal digits d1 to d5, and the "
                + "first command is the highest group of the number", BoundsOfScripts::theHighestFirst);
        Bounds.sentence("Promise 26", "(with zeros before it, if it has fewer digits).",
                BoundsOfScripts::zerosBeforeIt);
        Bounds.sentence("Promise 26", "n: number of commands, 1 to 3", BoundsOfScripts::numbers);
        Bounds.sentence("Promise 26", "script: the commands, a number of at most 5 * n digits (0 or "
                + "more)", BoundsOfScripts::leastAndGreatestScripts);
        Bounds.sentence("Promise 26", "Returns the index, from 0, of the first command that fails; "
                + "NONE if all succeed.", BoundsOfScripts::theFirstThatFails);
        Bounds.sentence("Promise 26", "Throws IllegalArgumentException if n is out of range",
                BoundsOfScripts::noSuchNumbers);
        Bounds.sentence("Promise 26", "or if script is negative or has more than 5 * n digits",
                BoundsOfScripts::noScripts);
    }

    private static void commands() {
        Bounds.sentence("Promise 26", "1 f k t l: teach(f, k, t, l).", BoundsOfScripts::teaches);
        Bounds.sentence("Promise 26", "2 h k 0 0: press(h, k).", BoundsOfScripts::presses);
        Bounds.sentence("Promise 26", "3 h k 0 0: erase(h, k).", BoundsOfScripts::erases);
        Bounds.sentence("Promise 26", "4 w v 0 0: set(w, v).", BoundsOfScripts::sets);
        Bounds.sentence("Promise 26", "5 d t 0 0: setTolerance(d, t).",
                BoundsOfScripts::setsTolerances);
        Bounds.sentence("Promise 26", "6 h k 0 n: succeeds if the code of the key has just the "
                + "generation n.", BoundsOfScripts::justTheGeneration);
        Bounds.sentence("Promise 26", "7 h k 0 n: succeeds if the code of the key has at most n "
                + "wrong bits in its chain.", BoundsOfScripts::atMostSoManyWrongBits);
        Bounds.sentence("Promise 26", "8 h k d 0: succeeds if the device d would accept the key if "
                + "it were pressed.", BoundsOfScripts::wouldAccept);
        Bounds.sentence("Promise 26", "9 d 0 0 m: succeeds if the device d is on (m is 1), or off "
                + "(m is 0).", BoundsOfScripts::onOrOff);
        Bounds.sentence("Promise 26", "The commands 1 to 5 fail if the method would throw an "
                + "exception", BoundsOfScripts::failWhereTheMethodThrows);
        Bounds.sentence("Promise 26", "commands with houses, keys or devices that do not exist",
                BoundsOfScripts::failWhereNothingIs);
        Bounds.sentence("Promise 26", "and 6 to 8 with a key that has no code, fail",
                BoundsOfScripts::failWithoutACode);
        Bounds.sentence("Promise 26", "and so does any other group (also one with another digit "
                + "where a 0 is written).", BoundsOfScripts::allGroups);
    }

    private static void simulations() {
        Bounds.sentence("Promise 27", "m times, each time anew with the code of a key; x begins as "
                + "the seed (once).", BoundsOfScripts::xGoesOnFromTimeToTime);
        Bounds.sentence("Promise 27", "Each time, the code is taught from house to house, from the "
                + "house h to the last one (with the noise as it is",
                BoundsOfScripts::fromAnyHouseToTheLast);
        Bounds.sentence("Promise 27", "seed: any long", BoundsOfScripts::seeds);
        Bounds.sentence("Promise 27", "m: 1 to 60", BoundsOfScripts::fromOneTo60Times);
        Bounds.sentence("Promise 27", "Returns 1000 * (how often the code that comes to the last "
                + "house is the one that began) + (the sum of the bits by which they are apart, "
                + "over all times)", BoundsOfScripts::leastAndGreatestSums);
        Bounds.sentence("Promise 27", "NONE if the key has no code.",
                BoundsOfScripts::simulatesNoCode);
        Bounds.sentence("Promise 27", "Throws IndexOutOfBoundsException if there is no such house "
                + "or key", () -> BoundsOfWhatThereIs.refusesKeys(
                        (t, h, k) -> t.simulate(h, k, 1, 1)));
        Bounds.sentence("Promise 27", "Throws IllegalArgumentException if m is out of range",
                BoundsOfScripts::noTimes);
    }

    /** What runScript answers for groups that are written one behind the other, with blanks. */
    private static void script(int want, Bounds.Maker maker, String groups) {
        int n = groups.split(" ").length;
        long script = Long.parseLong(groups.replace(" ", ""));
        Due.answers(want, "the script " + groups, () -> maker.make().runScript(n, script));
    }

    private static void succeeds(String groups) {
        script(Due.NONE, Bounds::busy, groups);
    }

    private static void fails(String... groups) {
        for (String group : groups) {
            script(0, Bounds::busy, group);
        }
    }

    // ---- scripts

    private static void onACopy() {
        long[] scripts = {100302000030000L, 300002000010010L, 400004180053300L, 200002000020000L,
            999999999999999L, 0};
        for (long script : scripts) {
            Bounds.unchanged(Bounds::busy, "the script " + script, t -> t.runScript(3, script));
        }
        TaughtRemotes t = Bounds.busy();
        Due.answers(1, "erased and pressed", () -> t.runScript(2, 3000020000L));
        Due.answers(1, "erased in a copy alone", () -> t.runScript(2, 3000020000L));
        Due.answers(9 - 1, "a script is no action", t::undo);
    }

    private static void fromOneToThreeCommands() {
        succeeds("20000");
        succeeds("20000 20000");
        succeeds("20000 20000 20000");
    }

    private static void theHighestFirst() {
        script(0, Bounds::busy, "21000 20000 20000");
        script(1, Bounds::busy, "20000 21000 20000");
        script(2, Bounds::busy, "20000 20000 21000");
        // Each command sees what the ones before it have done.
        script(Due.NONE, () -> Due.street("R2k000000d000000"), "90000 20000 90001");
        script(1, () -> Due.street("R2k000000d000000"), "20000 90000 90001");
        script(2, () -> Due.street("R2k000000d000000"), "20000 30000 20000");
        script(Due.NONE, () -> Due.street("R2k000000n0"), "10015 60000 61501");
        script(Due.NONE, () -> Due.street("R2k000000n0"), "10015 30000 61501");
    }

    private static void zerosBeforeIt() {
        Due.answers(0, "one group of two", () -> Bounds.busy().runScript(2, 20000));
        Due.answers(0, "one group of three", () -> Bounds.busy().runScript(3, 20000));
        Due.answers(0, "two groups of three", () -> Bounds.busy().runScript(3, 2000020000L));
        Due.answers(0, "four digits", () -> Bounds.busy().runScript(1, 2000));
        Due.answers(0, "nine digits of two", () -> Bounds.busy().runScript(2, 200020000));
        Due.answers(0, "no digits but 0", () -> Bounds.busy().runScript(3, 0));
    }

    private static void numbers() {
        Due.answers(Due.NONE, "1", () -> Bounds.busy().runScript(1, 20000));
        Due.answers(Due.NONE, "2", () -> Bounds.busy().runScript(2, 2000020000L));
        Due.answers(Due.NONE, "3", () -> Bounds.busy().runScript(3, 200002000020000L));
    }

    private static void leastAndGreatestScripts() {
        for (int n = 1; n <= 3; n++) {
            int number = n;
            long greatest = Long.parseLong("9".repeat(5 * n));
            Due.answers(0, "0", () -> Bounds.busy().runScript(number, 0));
            Due.answers(0, "the greatest", () -> Bounds.busy().runScript(number, greatest));
            Bounds.refused(Due.BAD_ARGUMENT, Bounds::busy, "one more than the greatest",
                    t -> t.runScript(number, greatest + 1));
            Bounds.refused(Due.BAD_ARGUMENT, Bounds::busy, "one less than 0",
                    t -> t.runScript(number, -1));
        }
        Due.answers(Due.NONE, "the greatest that can succeed", () -> {
            TaughtRemotes t = Due.street("R2k000000d000000d000000d000000d000000d000000d000000");
            return t.runScript(3, 950009500095000L);
        });
    }

    private static void theFirstThatFails() {
        int[] want = {0, 0, 0, 0, 1, 1, 2, Due.NONE};
        for (int which = 0; which < 8; which++) {
            StringBuilder groups = new StringBuilder();
            for (int i = 0; i < 3; i++) {
                groups.append((which >> 2 - i & 1) == 1 ? " 20000" : " 21000");
            }
            script(want[which], Bounds::busy, groups.substring(1));
        }
        script(0, Bounds::busy, "21000");
        script(1, Bounds::busy, "20000 21000");
        script(0, Bounds::busy, "21000 20000");
        script(0, Bounds::busy, "21000 21000");
        // What comes behind a command that fails is not run.
        script(1, () -> Due.street("R2k000000"), "20000 99999 30000");
    }

    private static void noSuchNumbers() {
        for (int n : new int[] {0, 4, -1, -3, 5, 259}) {
            Bounds.refused(Due.BAD_ARGUMENT, Bounds::busy, "n " + n, t -> t.runScript(n, 20000));
            Bounds.refused(Due.BAD_ARGUMENT, Bounds::busy, "n " + n, t -> t.runScript(n, 0));
        }
        for (int far : Bounds.FAR) {
            Bounds.refused(Due.BAD_ARGUMENT, Bounds::busy, "n " + far, t -> t.runScript(far, 0));
        }
    }

    private static void noScripts() {
        long[] never = {-1, -20000, Long.MIN_VALUE, Long.MAX_VALUE, 1000000000000000L,
            1L << 62, -(1L << 32)};
        for (long script : never) {
            for (int n = 1; n <= 3; n++) {
                int number = n;
                Bounds.refused(Due.BAD_ARGUMENT, Bounds::busy, n + " of " + script,
                        t -> t.runScript(number, script));
            }
        }
        // These are right numbers, but of more commands; the low 32 bits of the last are 20000.
        for (long script : new long[] {100000, 120000, 2000020000L, (1L << 32) + 20000}) {
            Bounds.refused(Due.BAD_ARGUMENT, Bounds::busy, "one of " + script,
                    t -> t.runScript(1, script));
        }
        for (long script : new long[] {10000000000L, 200002000020000L}) {
            Bounds.refused(Due.BAD_ARGUMENT, Bounds::busy, "two of " + script,
                    t -> t.runScript(2, script));
        }
    }

    // ---- commands

    private static void teaches() {
        succeeds("10010");
        succeeds("10001");
        succeeds("13530");
        fails("10000", "13535", "11000", "10040", "10006", "14000", "10600", "11111");
        Due.answers(Due.NONE, "the last house and key",
                () -> Due.street("R9k850000").runScript(1, 18580));
        Due.answers(1, "the record, with its wrong bit, is there",
                () -> Due.street("R9k000000n3").runScript(2, 1008578500L));
        Due.answers(Due.NONE, "one wrong bit",
                () -> Due.street("R9k000000n3").runScript(2, 1008578501L));
    }

    private static void presses() {
        succeeds("20000");
        succeeds("23500");
        fails("21000", "21100", "24000", "20600", "20010", "20001", "20090", "20009");
        script(Due.NONE, () -> Due.street("R2k000000"), "20000");
    }

    private static void erases() {
        succeeds("30000");
        succeeds("33500");
        succeeds("31000");
        fails("34000", "30600", "30010", "30001");
        script(Due.NONE, () -> Due.street("R2k000000"), "30000 30000");
        script(1, () -> Due.street("R2k000000"), "30000 20000");
    }

    private static void sets() {
        succeeds("40000");
        succeeds("40300");
        succeeds("41000");
        succeeds("41800");
        fails("40400", "40900", "41900", "42000", "49000", "40010", "40001");
        script(Due.NONE, () -> Due.street("R9k000000d200000s1"), "41200 80000");
        script(1, () -> Due.street("R9k000000d200000s2"), "41100 80000");
        script(2, () -> Due.street("R9k000000n0"), "40100 10080 78000");
        script(Due.NONE, () -> Due.street("R9k000000n1"), "40000 10080 78000");
    }

    private static void setsTolerances() {
        succeeds("50000");
        succeeds("53300");
        fails("54000", "59000", "50400", "50900", "50010", "50001");
        script(Due.NONE, () -> Due.street("R2k000007d000000"), "50300 80000");
        script(1, () -> Due.street("R2k000007d000003"), "50200 80000");
    }

    /** Generations of two digits have no command: the digit is the whole number. */
    private static void justTheGeneration() {
        for (int generation = 0; generation < 40; generation++) {
            int records = generation + 1;
            int house = generation % 2 * 8;
            for (int n = 0; n <= 9; n++) {
                script(n == generation ? Due.NONE : 0, () -> Bounds.chainOf(records, 0),
                        "6" + house + "00" + n);
            }
        }
    }

    private static void atMostSoManyWrongBits() {
        for (int wrong = 0; wrong <= 12; wrong++) {
            int records = wrong + 1;
            int house = wrong % 2 * 8;
            for (int n = 0; n <= 9; n++) {
                script(wrong <= n ? Due.NONE : 0, () -> Bounds.chainOf(records, 3),
                        "7" + house + "00" + n);
            }
        }
        script(0, () -> Bounds.chainOf(40, 3), "78009");
        script(Due.NONE, () -> Bounds.chainOf(40, 0), "78000");
    }

    private static void wouldAccept() {
        script(Due.NONE, () -> Due.street("R9k000000d000000"), "80000");
        script(Due.NONE, () -> Due.street("R9k000000d200000"), "80000");
        script(0, () -> Due.street("R9k000000d300000"), "80000");
        script(Due.NONE, () -> Due.street("R9k000007d000003"), "80000");
        script(0, () -> Due.street("R9k000007d000002"), "80000");
        Bounds.Maker six = () ->
                Due.street("R9k850000d840950d840950d840950d840950d840950d800000");
        script(Due.NONE, six, "88550");
        script(0, six, "88540");
        script(0, six, "88560");
    }

    private static void onOrOff() {
        Bounds.Maker six = () -> {
            TaughtRemotes t = Due.street("R2k000000d000000d040950d040950d040950d040950d000000");
            t.press(0, 0);
            return t;
        };
        for (int d = 0; d < 10; d++) {
            for (int m = 0; m <= 9; m++) {
                boolean on = d == 0 || d == 5;
                boolean want = d < 6 && m == (on ? 1 : 0);
                script(want ? Due.NONE : 0, six, "9" + d + "00" + m);
            }
        }
    }

    private static boolean answers(Bounds.Maker maker, Bounds.Ask ask) {
        return !Bounds.outcome(maker.make(), ask).endsWith("Exception");
    }

    /** If the method of this group's command answers; the groups have their zeros. */
    private static boolean methodAnswers(Bounds.Maker maker, int group) {
        int a = group / 1000 % 10;
        int b = group / 100 % 10;
        int c = group / 10 % 10;
        int d = group % 10;
        return switch (group / 10000) {
            case 1 -> answers(maker, t -> t.teach(a, b, c, d));
            case 2 -> answers(maker, t -> t.press(a, b));
            case 3 -> answers(maker, t -> t.erase(a, b));
            case 4 -> answers(maker, t -> t.set(a, b));
            default -> answers(maker, t -> t.setTolerance(a, b));
        };
    }

    private static void failWhereTheMethodThrows() {
        for (int group = 10000; group < 20000; group++) {
            boolean want = methodAnswers(BoundsOfScripts::small, group);
            script(want ? Due.NONE : 0, BoundsOfScripts::small, "" + group);
        }
        for (int group = 20000; group < 60000; group += 100) {
            boolean want = methodAnswers(BoundsOfScripts::small, group);
            script(want ? Due.NONE : 0, BoundsOfScripts::small, "" + group);
        }
        for (int group = 10000; group < 20000; group += 7) {
            script(0, Bounds::fullOfRecords, "" + group);
        }
    }

    /** Houses 0 to 3; codes at the keys 0 0 and 3 5 alone; devices 0 (on) and 1 (off). */
    private static TaughtRemotes small() {
        TaughtRemotes t = Due.street("R4k000000k354095d000001d000073");
        t.addDevice(3, 4094, 0);
        t.press(0, 0);
        return t;
    }

    private static void failWhereNothingIs() {
        fails("14010", "10040", "10610", "10016", "24000", "20600", "34000", "30600", "54000",
                "64000", "60600", "74009", "70609", "84000", "80600", "80040", "80090", "94000",
                "94001", "99000");
        for (String group : new String[] {"50000", "80000", "90000", "90001"}) {
            script(0, () -> Due.street("R4k000000"), group);
        }
        script(0, () -> Due.street("R2k000000"), "32000");
        script(0, () -> Due.street("R9k000000"), "39000");
        script(Due.NONE, () -> Due.street("R9k000000"), "38500");
    }

    private static void failWithoutACode() {
        fails("61000", "61001", "71000", "71009", "81000", "81010", "61100", "71109", "81100");
        script(1, () -> Due.street("R2k000000d000000"), "30000 60000");
        script(1, () -> Due.street("R2k000000d000000"), "30000 70009");
        script(1, () -> Due.street("R2k000000d000000"), "30000 80000");
    }

    /** If a group of the kinds 6 to 9 is one that succeeds, by what the object itself tells. */
    private static boolean holds(TaughtRemotes t, int group) {
        int a = group / 1000 % 10;
        int b = group / 100 % 10;
        int c = group / 10 % 10;
        int d = group % 10;
        boolean coded = a < 4 && b < 6 && t.key(a, b, 0) != Due.NONE;
        return switch (group / 10000) {
            case 6 -> coded && c == 0 && t.key(a, b, 2) == d;
            case 7 -> coded && c == 0 && t.key(a, b, 4) <= d;
            case 8 -> coded && d == 0 && (t.accepted(a, b) >> c & 1) == 1;
            case 9 -> b == 0 && c == 0 && a < t.about(1) && t.device(a, 3) == d;
            default -> false;
        };
    }

    /** All groups there are: 2 to 5 with another digit than 0, 0, and 6 to 9. */
    private static void allGroups() {
        TaughtRemotes t = Bounds.busy();
        int answered = 0;
        for (int group = 0; group < 100000; group++) {
            if (group / 10000 == 1 || group >= 20000 && group < 60000 && group % 100 == 0) {
                continue;
            }
            // No object is called more often than is promised.
            if (answered++ % 60 == 0) {
                t = Bounds.busy();
            }
            TaughtRemotes asked = t;
            int digits = group;
            Due.answers(holds(t, group) ? Due.NONE : 0, "the group " + group,
                    () -> asked.runScript(1, digits));
        }
    }

    // ---- simulations

    /** The sum told by numbers without a bound. */
    private static int simulated(String text, int steps, int code, long seed, int m) {
        int noise = text.charAt(text.indexOf('n') + 1) - '0';
        Dice dice = new Dice(seed);
        int sum = 0;
        for (int i = 0; i < m; i++) {
            int arriving = code;
            for (int step = 0; step < steps; step++) {
                arriving = Dice.learned(arriving, dice.next(), noise, 1);
            }
            sum += (arriving == code ? 1000 : 0) + Integer.bitCount(arriving ^ code);
        }
        return sum;
    }

    private static void simulates(String text, int h, int code, long seed, int m) {
        int houses = text.charAt(1) - '0';
        int want = simulated(text, houses - 1 - h, code, seed, m);
        Due.answers(want, text + " from " + h + ", seed " + seed + ", " + m + " times",
                () -> Due.street(text).simulate(h, 0, seed, m));
    }

    private static void xGoesOnFromTimeToTime() {
        for (int m = 1; m <= 60; m++) {
            simulates("R2n3k000000", 0, 0, 1, m);
            simulates("R9n2k001365", 0, 1365, 77, m);
        }
        TaughtRemotes t = Due.street("R9k000000n3");
        t.teach(0, 0, 0, 1);
        Due.answers(simulated("n3", 8, 0, 1, 9), "the x of the street does not matter",
                () -> t.simulate(0, 0, 1, 9));
    }

    private static void fromAnyHouseToTheLast() {
        for (int i = 0; i < 8 * 9 * 4; i++) {
            int houses = 2 + i % 8;
            int h = i / 8 % 9;
            int noise = i / 72;
            if (h < houses) {
                simulates("R" + houses + "n" + noise + "k" + h + "01365", h, 1365, i, 20);
            }
        }
        Due.answers(60000, "in the last house", () -> Due.street("R9n3k854095").simulate(8, 5, 1, 60));
        Due.answers(60000, "without noise", () -> Due.street("R9n0k000000").simulate(0, 0, 1, 60));
    }

    private static void seeds() {
        long[] seeds = {0, 1, -1, Long.MAX_VALUE, Long.MIN_VALUE, 1L << 33, -(1L << 33),
            Integer.MAX_VALUE, Integer.MIN_VALUE, Due.NONE};
        for (long seed : seeds) {
            simulates("R9n3k000000", 0, 0, seed, 60);
            simulates("R2n1k004095", 0, 4095, seed, 60);
        }
    }

    private static void fromOneTo60Times() {
        Due.answers(1000, "once", () -> Due.street("R2n0k000000").simulate(0, 0, 5, 1));
        Due.answers(60000, "60 times", () -> Due.street("R2n0k000000").simulate(0, 0, 5, 60));
    }

    /** The first r from the seed 1 is wrong over a house for no noise, the fourth for each. */
    private static void leastAndGreatestSums() {
        Due.answers(60000, "always the one that began",
                () -> Due.street("R9n0k004095").simulate(0, 0, 1, 60));
        long never = 0;
        while (!Dice.isWrong(new Dice(never).next(), 3, 1)) {
            never++;
        }
        long seed = never;
        Due.answers(1, "once, and one bit apart",
                () -> Due.street("R2n3k000000").simulate(0, 0, seed, 1));
        Due.answers(1, "as far when it becomes a 0",
                () -> Due.street("R2n3k004095").simulate(0, 0, seed, 1));
        // A bit that is wrong twice on its way comes as the one that began.
        for (long s = 0; s < 200; s++) {
            simulates("R9n3k000000", 0, 0, s, 1);
        }
    }

    private static void simulatesNoCode() {
        Due.answers(Due.NONE, "never had one", () -> Bounds.busy().simulate(1, 0, 1, 1));
        Due.answers(Due.NONE, "erased", () -> Bounds.busy().simulate(1, 1, 1, 60));
        Due.answers(Due.NONE, "in the last house", () -> Bounds.busy().simulate(3, 4, 1, 60));
        Bounds.refused(Due.BAD_ARGUMENT, Bounds::busy, "m 0 without a code",
                t -> t.simulate(1, 0, 1, 0));
        Bounds.refused(Due.BAD_ARGUMENT, Bounds::busy, "m 61 without a code",
                t -> t.simulate(1, 0, 1, 61));
    }

    private static void noTimes() {
        for (int m : new int[] {0, 61, -1, -60, 316}) {
            Bounds.refused(Due.BAD_ARGUMENT, Bounds::busy, "m " + m, t -> t.simulate(0, 0, 1, m));
        }
        for (int far : Bounds.FAR) {
            Bounds.refused(Due.BAD_ARGUMENT, Bounds::busy, "m " + far,
                    t -> t.simulate(0, 0, 1, far));
        }
        Bounds.refused(Due.NO_PLACE, Bounds::busy, "m 0 of no house", t -> t.simulate(4, 0, 1, 0));
        Bounds.refused(Due.NO_PLACE, Bounds::busy, "m 61 of no key", t -> t.simulate(0, 6, 1, 61));
    }
}
