/** Promises 6 to 13: what there is. */
public final class WhatThereIsTest {
    public static void main(String[] args) {
        promise6();
        promise7();
        promise8();
        promise9();
        promise10();
        promise11();
        promise12();
        promise13();
        promise13reach();
        Due.end("WhatThereIsTest");
    }

    /**
     * With noise 3 over far houses each of the first teachings from x = 1 goes wrong, in the bits
     * 5, 9, 0, 6, 5, 11, 1, 7, 6; over no distance none does.
     *
     * <p>Records: 0 is house 0, key 0, code 0; 1 is house 1, key 1, code 4095; 2 is taught from 0
     * to house 8, key 0 (bit 5: 32); 3 from 2 to house 0, key 2 (bit 9: 544); 4 from 3 to house 0,
     * key 3 (none: 544); 5 from 2 to house 1, key 1 (bit 6: 96).
     */
    private static TaughtRemotes family() {
        TaughtRemotes t = Due.street("R9k000000k114095n3");
        Due.answers(32, "0 to 8", () -> t.teach(0, 0, 8, 0));
        Due.answers(544, "8 to 0", () -> t.teach(8, 0, 0, 2));
        Due.answers(544, "0 to 0", () -> t.teach(0, 2, 0, 3));
        Due.answers(96, "8 to 1", () -> t.teach(8, 0, 1, 1));
        return t;
    }

    private static void promise6() {
        TaughtRemotes t = family();
        t.enter(5, 5, 9);
        t.addDevice(0, 0, 0);
        t.addDevice(0, 4095, 0);
        t.addDevice(1, 0, 0);
        t.set(1, 0);
        t.press(0, 0);
        t.set(1, 1);
        t.press(0, 0);
        t.press(0, 0);
        t.set(1, 7);
        // Device 0 is on again and then off and on; device 2 twice over: on and off.
        int[] want = {9, 3, 7, 3, 7, 4, 3, 1, 2, 3};
        for (int what = 0; what < want.length; what++) {
            int asked = what;
            Due.answers(want[what], "about(" + what + ")", () -> t.about(asked));
        }
        Due.refuses(Due.BAD_ARGUMENT, t, "about(-1)", () -> t.about(-1));
        Due.refuses(Due.BAD_ARGUMENT, t, "about(10)", () -> t.about(10));
        Due.refuses(Due.BAD_ARGUMENT, t, "about(NONE)", () -> t.about(Due.NONE));
        // Erased codes count no longer as roots, but their records stay.
        t.erase(5, 5);
        Due.answers(1, "roots after erase", () -> t.about(8));
        Due.answers(7, "records after erase", () -> t.about(2));
        for (int h = 0; h < 9; h++) {
            for (int k = 0; k < 6; k++) {
                t.erase(h, k);
            }
        }
        Due.answers(0, "roots of no codes", () -> t.about(8));
        Due.answers(3, "the greatest generation stays", () -> t.about(9));
        TaughtRemotes entered = Due.street("R2k000000");
        Due.answers(0, "generation of entered ones", () -> entered.about(9));
        Due.answers(0, "taught ones", () -> entered.about(5));
    }

    private static void promise7() {
        TaughtRemotes t = family();
        int[][] want = {
            // house, key, then code, record, generation, house of the root, wrong bits, bits apart
            {0, 0, 0, 0, 0, 0, 0, 0},
            {8, 0, 32, 2, 1, 0, 1, 1},
            {0, 2, 544, 3, 2, 0, 2, 2},
            {0, 3, 544, 4, 3, 0, 2, 2},
            {1, 1, 96, 5, 2, 0, 2, 2},
            {1, 0, -9, -9, -9, -9, -9, -9}};
        for (int[] row : want) {
            for (int what = 0; what < 6; what++) {
                int asked = what;
                Due.answers(row[2 + what], "key " + row[0] + " " + row[1] + " " + what,
                        () -> t.key(row[0], row[1], asked));
            }
        }
        Due.refuses(Due.NO_PLACE, t, "key(-1, 0, 0)", () -> t.key(-1, 0, 0));
        Due.refuses(Due.NO_PLACE, t, "key(9, 0, 0)", () -> t.key(9, 0, 0));
        Due.refuses(Due.NO_PLACE, t, "key(0, -1, 0)", () -> t.key(0, -1, 0));
        Due.refuses(Due.NO_PLACE, t, "key(0, 6, 0)", () -> t.key(0, 6, 0));
        Due.refuses(Due.NO_PLACE, t, "key(9, 0, 6)", () -> t.key(9, 0, 6));
        Due.refuses(Due.BAD_ARGUMENT, t, "key(0, 0, -1)", () -> t.key(0, 0, -1));
        Due.refuses(Due.BAD_ARGUMENT, t, "key(0, 0, 6)", () -> t.key(0, 0, 6));
        Due.refuses(Due.BAD_ARGUMENT, t, "key(1, 0, 6), no code", () -> t.key(1, 0, 6));
        promise7sameBitTwice();
    }

    /** A bit that is wrong twice is right again: two wrong bits, and none apart. */
    private static void promise7sameBitTwice() {
        TaughtRemotes t = Due.street("R9k000000n3");
        t.teach(0, 0, 8, 0);
        for (int i = 0; i < 3; i++) {
            t.teach(8, 0, 8, 5);
        }
        Due.answers(0, "bit 5 again", () -> t.teach(8, 0, 0, 1));
        Due.answers(2, "two wrong bits", () -> t.key(0, 1, 4));
        Due.answers(0, "none apart", () -> t.key(0, 1, 5));
    }

    private static void promise8() {
        TaughtRemotes t = family();
        int[][] want = {
            {Due.NONE, 0, 0, 0, Due.NONE, 1, 5},
            {Due.NONE, 1, 1, 4095, Due.NONE, 0, 0},
            {0, 8, 0, 32, 5, 2, 4},
            {2, 0, 2, 544, 9, 1, 2},
            {3, 0, 3, 544, Due.NONE, 0, 1},
            {2, 1, 1, 96, 6, 0, 1}};
        for (int i = 0; i < want.length; i++) {
            for (int what = 0; what < 7; what++) {
                int record = i;
                int asked = what;
                Due.answers(want[i][what], "record " + i + " " + what,
                        () -> t.record(record, asked));
            }
        }
        Due.refuses(Due.NO_PLACE, t, "record(-1, 0)", () -> t.record(-1, 0));
        Due.refuses(Due.NO_PLACE, t, "record(6, 0)", () -> t.record(6, 0));
        Due.refuses(Due.NO_PLACE, t, "record(NONE, 0)", () -> t.record(Due.NONE, 0));
        Due.refuses(Due.NO_PLACE, t, "record(6, 7)", () -> t.record(6, 7));
        Due.refuses(Due.BAD_ARGUMENT, t, "record(0, -1)", () -> t.record(0, -1));
        Due.refuses(Due.BAD_ARGUMENT, t, "record(5, 7)", () -> t.record(5, 7));
        // A wrong bit 0 is a wrong bit; the third teaching from x = 1 has it.
        TaughtRemotes zero = Due.street("R9k000000n3");
        zero.teach(0, 0, 0, 1);
        zero.teach(0, 0, 0, 1);
        Due.answers(1, "the third goes wrong in bit 0", () -> zero.teach(0, 0, 8, 0));
        Due.answers(0, "its wrong bit", () -> zero.record(3, 4));
        Due.answers(1, "it counts", () -> zero.about(6));
        Due.answers(3, "it went wrong there", () -> zero.wentWrong(8, 0));
        Due.answers(1, "it counts in the chain", () -> zero.key(8, 0, 4));
    }

    private static void promise9() {
        TaughtRemotes t = family();
        t.addDevice(8, 33, 0);
        t.addDevice(7, 33, 1);
        t.addDevice(0, 33, 3);
        t.set(1, 0);
        t.press(0, 0);
        int[][] want = {{8, 33, 0, 0, 0}, {7, 33, 1, 0, 1}, {0, 33, 3, 1, 5}};
        for (int d = 0; d < want.length; d++) {
            for (int what = 0; what < 5; what++) {
                int device = d;
                int asked = what;
                Due.answers(want[d][what], "device " + d + " " + what,
                        () -> t.device(device, asked));
            }
        }
        Due.answers(8, "the reach and what is on are not asked", () -> {
            t.enter(8, 5, 33);
            t.enter(8, 4, 32 + 1 + 2 + 4);
            t.enter(8, 3, 33 + 2 + 4 + 8 + 16);
            t.enter(7, 3, 33 + 2 + 4 + 8);
            return t.device(2, 4);
        });
        Due.refuses(Due.NO_PLACE, t, "device(-1, 0)", () -> t.device(-1, 0));
        Due.refuses(Due.NO_PLACE, t, "device(3, 0)", () -> t.device(3, 0));
        Due.refuses(Due.NO_PLACE, t, "device(3, 5)", () -> t.device(3, 5));
        Due.refuses(Due.BAD_ARGUMENT, t, "device(0, -1)", () -> t.device(0, -1));
        Due.refuses(Due.BAD_ARGUMENT, t, "device(0, 5)", () -> t.device(0, 5));
    }

    private static void promise10() {
        TaughtRemotes t = family();
        int[] want = {4, 3, 2, 0, Due.NONE, Due.NONE};
        for (int i = 0; i < want.length; i++) {
            int place = i;
            Due.answers(want[i], "trace(0, 3, " + i + ")", () -> t.trace(0, 3, place));
        }
        Due.answers(Due.NONE, "trace far", () -> t.trace(0, 3, Integer.MAX_VALUE));
        Due.answers(Due.NONE, "trace of no code", () -> t.trace(1, 0, 0));
        Due.answers(0, "trace of a root", () -> t.trace(0, 0, 0));
        Due.answers(Due.NONE, "trace behind a root", () -> t.trace(0, 0, 1));
        Due.refuses(Due.NO_PLACE, t, "trace(9, 0, 0)", () -> t.trace(9, 0, 0));
        Due.refuses(Due.NO_PLACE, t, "trace(0, 6, -1)", () -> t.trace(0, 6, -1));
        Due.refuses(Due.BAD_ARGUMENT, t, "trace(0, 0, -1)", () -> t.trace(0, 0, -1));
        Due.refuses(Due.BAD_ARGUMENT, t, "trace(1, 0, -9)", () -> t.trace(1, 0, Due.NONE));
        // The longest chain there can be.
        TaughtRemotes chain = Due.street("R2k000000n0");
        for (int i = 1; i < 40; i++) {
            chain.teach(0, (i + 1) % 2, 0, i % 2);
        }
        Due.answers(39, "generation of the last", () -> chain.about(9));
        Due.answers(39, "the last", () -> chain.trace(0, 1, 0));
        Due.answers(0, "the root of 40", () -> chain.trace(0, 1, 39));
        Due.answers(Due.NONE, "behind the root of 40", () -> chain.trace(0, 1, 40));
        Due.answers(2, "all keys have their codes from it", () -> chain.record(0, 6));
        Due.answers(38, "what both have in common", () -> chain.common(0, 1, 0, 0));
    }

    private static void promise11() {
        TaughtRemotes t = family();
        Due.answers(Due.NONE, "an entered code", () -> t.wentWrong(0, 0));
        Due.answers(Due.NONE, "no code", () -> t.wentWrong(4, 4));
        Due.answers(2, "house 8", () -> t.wentWrong(8, 0));
        Due.answers(2, "nearest to the root", () -> t.wentWrong(0, 2));
        Due.answers(2, "nearest to the root, later", () -> t.wentWrong(0, 3));
        t.teach(0, 0, 0, 5);
        Due.answers(Due.NONE, "learned well", () -> t.wentWrong(0, 5));
        Due.refuses(Due.NO_PLACE, t, "wentWrong(9, 0)", () -> t.wentWrong(9, 0));
        Due.refuses(Due.NO_PLACE, t, "wentWrong(0, 6)", () -> t.wentWrong(0, 6));
        Due.refuses(Due.NO_PLACE, t, "wentWrong(-9, 0)", () -> t.wentWrong(Due.NONE, 0));
    }

    private static void promise12() {
        TaughtRemotes t = family();
        Due.answers(2, "two that come from 2", () -> t.common(0, 3, 1, 1));
        Due.answers(2, "the other way about", () -> t.common(1, 1, 0, 3));
        Due.answers(3, "one in the chain of the other", () -> t.common(0, 2, 0, 3));
        Due.answers(4, "a key and itself", () -> t.common(0, 3, 0, 3));
        Due.answers(0, "the root", () -> t.common(0, 0, 0, 3));
        Due.answers(Due.NONE, "no code", () -> t.common(4, 0, 0, 0));
        Due.answers(Due.NONE, "no code there", () -> t.common(0, 0, 4, 0));
        Due.answers(Due.NONE, "no codes at all", () -> t.common(4, 0, 4, 0));
        t.enter(4, 0, 0);
        Due.answers(Due.NONE, "the same code, another root", () -> t.common(4, 0, 0, 0));
        Due.refuses(Due.NO_PLACE, t, "common(9, 0, 0, 0)", () -> t.common(9, 0, 0, 0));
        Due.refuses(Due.NO_PLACE, t, "common(0, 6, 0, 0)", () -> t.common(0, 6, 0, 0));
        Due.refuses(Due.NO_PLACE, t, "common(0, 0, 9, 0)", () -> t.common(0, 0, 9, 0));
        Due.refuses(Due.NO_PLACE, t, "common(0, 0, 0, -1)", () -> t.common(0, 0, 0, -1));
    }

    private static void promise13() {
        TaughtRemotes t = Due.street("R9k400015s8");
        int[] codes = {15, 14, 12, 8, 0, 31};
        for (int d = 0; d < codes.length; d++) {
            t.addDevice(d, codes[d], d == 5 ? 0 : 3);
        }
        Due.answers(0b001111, "tolerance 3", () -> t.accepted(4, 0));
        t.setTolerance(3, 2);
        Due.answers(0b000111, "too far by a bit", () -> t.accepted(4, 0));
        t.setTolerance(5, 1);
        Due.answers(0b100111, "just near enough", () -> t.accepted(4, 0));
        Due.answers(0, "nothing is switched", () -> t.about(7));
        Due.answers(0, "no code", () -> t.accepted(4, 1));
        Due.refuses(Due.NO_PLACE, t, "accepted(9, 0)", () -> t.accepted(9, 0));
        Due.refuses(Due.NO_PLACE, t, "accepted(0, 6)", () -> t.accepted(0, 6));
        Due.refuses(Due.NO_PLACE, t, "accepted(-1, 0)", () -> t.accepted(-1, 0));
    }

    private static void promise13reach() {
        TaughtRemotes t = Due.street("R9k400000k000000k800000");
        for (int h : new int[] {0, 2, 3, 4, 6, 8}) {
            t.addDevice(h, 0, 0);
        }
        Due.answers(0b011110, "the reach is 2 at first", () -> t.accepted(4, 0));
        t.set(1, 0);
        Due.answers(0b001000, "reach 0", () -> t.accepted(4, 0));
        t.set(1, 1);
        Due.answers(0b001100, "reach 1", () -> t.accepted(4, 0));
        t.set(1, 8);
        Due.answers(0b111111, "reach 8", () -> t.accepted(0, 0));
        t.set(1, 7);
        Due.answers(0b011111, "reach 7", () -> t.accepted(0, 0));
        Due.answers(0b111110, "reach 7 from the end", () -> t.accepted(8, 0));
    }
}
