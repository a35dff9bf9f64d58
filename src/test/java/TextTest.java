/** Promises 1 to 5: a new object, and the text. */
public final class TextTest {
    public static void main(String[] args) {
        promise1();
        promise2();
        promise3();
        promise4ends();
        promise4parts();
        promise4limits();
        promise5();
        promise5resets();
        Due.end("TextTest");
    }

    private static void promise1() {
        TaughtRemotes t = new TaughtRemotes();
        int[] want = {4, 0, 0, 1, 2, 0, 0, 0, 0, Due.NONE};
        for (int what = 0; what < want.length; what++) {
            int asked = what;
            Due.answers(want[what], "a new object's about(" + what + ")", () -> t.about(asked));
        }
        for (int h = 0; h < 4; h++) {
            for (int k = 0; k < 6; k++) {
                Due.same("-9", "" + t.key(h, k, 0), "a new object's key");
            }
        }
        Due.refuses(Due.NO_PLACE, t, "key of house 4", () -> t.key(4, 0, 0));
        Due.refuses(Due.BAD_STATE, t, "undo of a new object", t::undo);
        Due.refuses(Due.BAD_STATE, t, "restore(0) of a new object", () -> t.restore(0));
        Due.refuses(Due.BAD_STATE, t, "restore(1) of a new object", () -> t.restore(1));
        Due.refuses(Due.BAD_STATE, t, "load without a text", t::load);
        Due.answers(0, "clearText of a new object", t::clearText);
        // x is 1 at first: the first bit that goes wrong is then the bit 5.
        t.enter(0, 0, 0);
        t.set(0, 3);
        Due.answers(32, "the first teaching", () -> t.teach(0, 0, 3, 0));
    }

    private static void promise2() {
        TaughtRemotes t = new TaughtRemotes();
        Due.answers(1, "append(0)", () -> t.append(0));
        Due.answers(2, "append(255)", () -> t.append(255));
        Due.refuses(Due.BAD_ARGUMENT, t, "append(-1)", () -> t.append(-1));
        Due.refuses(Due.BAD_ARGUMENT, t, "append(256)", () -> t.append(256));
        Due.refuses(Due.BAD_ARGUMENT, t, "append(82 + 65536)", () -> t.append(82 + 65536));
        Due.refuses(Due.BAD_ARGUMENT, t, "append of the least", () -> t.append(Integer.MIN_VALUE));
        for (int i = 3; i <= 120; i++) {
            Due.answers(i, "append number " + i, () -> t.append('R'));
        }
        Due.refuses(Due.BAD_STATE, t, "append number 121", () -> t.append('R'));
        Due.refuses(Due.BAD_ARGUMENT, t, "append(256) when full", () -> t.append(256));
        Due.answers(120, "the length of the full text", t::clearText);
        Due.answers(1, "append after clearText", () -> t.append('R'));
        // The text is no part of the state: no call of undo takes a character back.
        Due.refuses(Due.BAD_STATE, t, "undo after append", t::undo);
    }

    private static void promise3() {
        TaughtRemotes t = new TaughtRemotes();
        Due.answers(0, "clearText of nothing", t::clearText);
        Due.write(t, "R2");
        Due.answers(Due.NONE, "errorPosition before", t::errorPosition);
        Due.answers(2, "clearText", t::clearText);
        Due.answers(0, "clearText again", t::clearText);
        Due.answers(0, "errorPosition after", t::errorPosition);
    }

    private static void position(int want, String text) {
        TaughtRemotes t = new TaughtRemotes();
        Due.write(t, text);
        Due.answers(want, "errorPosition of " + text, t::errorPosition);
        Due.answers(text.length(), "the length kept of " + text, t::clearText);
    }

    private static void promise4ends() {
        position(0, "");
        position(1, "R");
        position(0, "r4");
        position(0, "4");
        position(1, "R1");
        position(1, "R0");
        position(1, "Rx");
        position(1, "R 4");
        for (int houses = 2; houses <= 9; houses++) {
            position(Due.NONE, "R" + houses);
        }
        position(2, "R4R");
        position(2, "R4 ");
        position(2, "R44");
        position(2, "R4K");
        position(3, "R4k");
        position(4, "R4k0");
        position(7, "R4k0012");
        position(8, "R4k00123");
        position(3, "R4d");
        position(8, "R4d01234");
        position(3, "R4n");
        position(3, "R4s");
        position(2, "R4" + (char) 0);
        position(2, "R4" + (char) 255);
    }

    private static void promise4parts() {
        position(Due.NONE, "R4k001234");
        position(9, "R4k0012345");
        position(Due.NONE, "R4k354095");
        position(3, "R4k4");
        position(3, "R4k400000");
        position(3, "R2k200000");
        position(Due.NONE, "R9k850000");
        position(3, "R9k950000");
        position(4, "R4k06");
        position(5, "R4k005000");
        position(5, "R4k00a");
        position(6, "R4k004100");
        position(Due.NONE, "R4k004000");
        position(Due.NONE, "R4k004089");
        position(Due.NONE, "R4k004090");
        position(8, "R4k004096");
        position(8, "R4k004099");
        position(Due.NONE, "R4k003999");
        position(Due.NONE, "R4d012343");
        position(Due.NONE, "R4d040950");
        position(8, "R4d012344");
        position(3, "R4d4");
        position(4, "R4d05");
        position(5, "R4d041");
        position(7, "R4d04096");
        position(9, "R4d0123430");
        position(Due.NONE, "R4n0");
        position(Due.NONE, "R4n3");
        position(3, "R4n4");
        position(Due.NONE, "R4s0");
        position(Due.NONE, "R4s8");
        position(3, "R4s9");
        position(Due.NONE, "R4n1n2n3s1s2");
        position(4, "R4n1x");
        position(Due.NONE, "R4s1d012343n2k000000k000001d300000");
        position(3, "R4nn");
        position(3, "R4k-");
        position(3, "R4k/");
        position(3, "R4k:");
    }

    private static void promise4limits() {
        String twelve = "R9" + "k000001".repeat(12);
        position(Due.NONE, twelve);
        position(twelve.length(), twelve + "k");
        position(twelve.length(), twelve + "k000001");
        position(Due.NONE, twelve + "d000010n1s1");
        String six = "R9" + "d000010".repeat(6);
        position(Due.NONE, six);
        position(six.length(), six + "d");
        position(six.length(), six + "d000010");
        position(Due.NONE, six + "k000001n1s1");
        String full = "R4" + "n1".repeat(59);
        position(Due.NONE, full);
        position(120, "R4" + "s3".repeat(58) + "d0");
        position(118, "R4" + "s3".repeat(58) + "R4");
        position(120, "R4" + "n3".repeat(56) + "k00123");
    }

    private static void promise5() {
        TaughtRemotes t = new TaughtRemotes();
        Due.write(t, "R5k001365k310007k000008d136502d440951n3s0n2s7");
        Due.answers(3, "load", t::load);
        int[] want = {5, 2, 3, 2, 7, 0, 0, 0, 2, 0};
        for (int what = 0; what < want.length; what++) {
            int asked = what;
            Due.answers(want[what], "about(" + what + ") when loaded", () -> t.about(asked));
        }
        Due.answers(8, "the later code of the key", () -> t.key(0, 0, 0));
        Due.answers(2, "its record", () -> t.key(0, 0, 1));
        Due.answers(7, "the other code", () -> t.key(3, 1, 0));
        int[][] records = {
            {Due.NONE, 0, 0, 1365, Due.NONE, 0, 0},
            {Due.NONE, 3, 1, 7, Due.NONE, 0, 1},
            {Due.NONE, 0, 0, 8, Due.NONE, 0, 1}};
        for (int i = 0; i < records.length; i++) {
            for (int what = 0; what < 7; what++) {
                Due.same("" + records[i][what], "" + t.record(i, what), "record " + i + " " + what);
            }
        }
        int[][] devices = {{1, 3650, 2, 0}, {4, 4095, 1, 0}};
        for (int d = 0; d < devices.length; d++) {
            for (int what = 0; what < 4; what++) {
                Due.same("" + devices[d][what], "" + t.device(d, what), "device " + d + " " + what);
            }
        }
        Due.answers(45, "the text is kept", t::clearText);
    }

    private static void promise5resets() {
        TaughtRemotes t = Due.street("R9k000000d000003n3s8");
        t.teach(0, 0, 8, 0);
        t.press(0, 0);
        t.save(0);
        t.save(1);
        Due.write(t, "R3x");
        Due.refuses(Due.BAD_STATE, t, "load of what is no street", t::load);
        Due.answers(2, "restore(0), not emptied by it", () -> t.restore(0));
        t.erase(0, 0);
        Due.refuses(Due.BAD_STATE, t, "load once more", t::load);
        Due.answers(0, "undo, not forgotten by it", t::undo);
        t.erase(0, 0);
        Due.write(t, "R3");
        Due.answers(0, "load of a plain street", t::load);
        Due.refuses(Due.BAD_STATE, t, "undo after load", t::undo);
        Due.refuses(Due.BAD_STATE, t, "restore(0) after load", () -> t.restore(0));
        Due.refuses(Due.BAD_STATE, t, "restore(1) after load", () -> t.restore(1));
        int[] want = {3, 0, 0, 1, 2, 0, 0, 0, 0, Due.NONE};
        for (int what = 0; what < want.length; what++) {
            int asked = what;
            Due.answers(want[what], "about(" + what + ") after load", () -> t.about(asked));
        }
        Due.answers(Due.NONE, "no code after load", () -> t.key(0, 0, 0));
        t.enter(0, 0, 0);
        t.set(0, 3);
        Due.answers(32, "x is 1 after load", () -> t.teach(0, 0, 2, 0));
        Due.answers(0, "load again", t::load);
        Due.answers(1, "a device is off when added", () -> t.addDevice(0, 0, 0) + 1);
        Due.answers(0, "none is on", () -> t.about(7));
        TaughtRemotes on = Due.street("R2k000000d000000");
        on.press(0, 0);
        Due.answers(Due.NONE, "a script that sees it on", () -> on.runScript(1, 90001));
        Due.answers(1, "load of the same text", on::load);
        Due.answers(0, "it is off", () -> on.about(7));
    }
}
