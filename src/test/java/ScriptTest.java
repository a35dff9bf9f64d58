/** Promises 26 and 27: scripts and simulations. */
public final class ScriptTest {
    public static void main(String[] args) {
        promise26arguments();
        promise26actions();
        promise26conditions();
        promise26otherDigits();
        promise26copy();
        promise27();
        promise27refuses();
        Due.end("ScriptTest");
    }

    /** With noise 3: key 0 of house 8 has generation 1 and a wrong bit, key 3 of house 0
     * generation 3 and two of them. Device 0 in house 0 accepts the code 0; 1 in house 3 is on. */
    private static TaughtRemotes sample() {
        TaughtRemotes t = Due.street("R9k000000n3d000000d300070k300007");
        t.teach(0, 0, 8, 0);
        t.teach(8, 0, 0, 2);
        t.teach(0, 2, 0, 3);
        t.press(3, 0);
        return t;
    }

    private static void succeeds(TaughtRemotes t, int... groups) {
        for (int group : groups) {
            Due.answers(Due.NONE, "runScript of " + group, () -> t.runScript(1, group));
        }
    }

    private static void fails(TaughtRemotes t, int... groups) {
        for (int group : groups) {
            Due.answers(0, "runScript of " + group, () -> t.runScript(1, group));
        }
    }

    private static void promise26arguments() {
        TaughtRemotes t = sample();
        Due.refuses(Due.BAD_ARGUMENT, t, "n 0", () -> t.runScript(0, 0));
        Due.refuses(Due.BAD_ARGUMENT, t, "n 4", () -> t.runScript(4, 0));
        Due.refuses(Due.BAD_ARGUMENT, t, "n -1", () -> t.runScript(-1, 0));
        Due.refuses(Due.BAD_ARGUMENT, t, "n of the greatest",
                () -> t.runScript(Integer.MAX_VALUE, 0));
        Due.refuses(Due.BAD_ARGUMENT, t, "script -1", () -> t.runScript(1, -1));
        Due.refuses(Due.BAD_ARGUMENT, t, "script of the least",
                () -> t.runScript(3, Long.MIN_VALUE));
        Due.refuses(Due.BAD_ARGUMENT, t, "script of the greatest",
                () -> t.runScript(3, Long.MAX_VALUE));
        Due.refuses(Due.BAD_ARGUMENT, t, "six digits", () -> t.runScript(1, 100000));
        Due.refuses(Due.BAD_ARGUMENT, t, "eleven digits", () -> t.runScript(2, 10000000000L));
        Due.refuses(Due.BAD_ARGUMENT, t, "16 digits", () -> t.runScript(3, 1000000000000000L));
        Due.answers(0, "99999", () -> t.runScript(1, 99999));
        Due.answers(0, "ten 9", () -> t.runScript(2, 9999999999L));
        Due.answers(0, "fifteen 9", () -> t.runScript(3, 999999999999999L));
        Due.answers(0, "0 has no command", () -> t.runScript(1, 0));
        Due.answers(0, "the first group is 0", () -> t.runScript(2, 20000));
        Due.answers(1, "the second one fails", () -> t.runScript(2, 2000000000L));
        Due.answers(2, "the third one fails", () -> t.runScript(3, 200002000000000L));
        Due.answers(1, "the first that fails", () -> t.runScript(3, 200009990020000L));
        Due.answers(Due.NONE, "all three succeed", () -> t.runScript(3, 200002000020000L));
    }

    private static void promise26actions() {
        TaughtRemotes t = sample();
        succeeds(t, 10080, 10001, 10085, 18000);
        fails(t, 10000, 11000, 19000, 10600, 10090, 10006, 12010, 13636);
        succeeds(t, 20000, 28000, 20300);
        fails(t, 21000, 29000, 20600, 20001, 20010);
        succeeds(t, 30000, 31000, 38500);
        fails(t, 39000, 30600, 30001, 30010);
        succeeds(t, 40000, 40300, 41000, 41800);
        fails(t, 40400, 41900, 42000, 49000, 40001, 40010);
        succeeds(t, 50000, 51300);
        fails(t, 52000, 50400, 59000, 50001, 50010);
        for (int i = t.about(2); i < 39; i++) {
            t.enter(5, 5, 1);
        }
        Due.answers(Due.NONE, "the last record", () -> t.runScript(1, 10080));
        Due.answers(1, "one too many", () -> t.runScript(2, 1008010080L));
    }

    private static void promise26conditions() {
        TaughtRemotes t = sample();
        succeeds(t, 60000, 68001, 60202, 60303);
        fails(t, 60001, 68000, 68002, 60304, 60302, 61000, 69000, 60600);
        succeeds(t, 70000, 70009, 78001, 78002, 70202, 70302, 70309);
        fails(t, 78000, 70301, 70300, 71000, 71009, 79009, 70609);
        succeeds(t, 80000, 83010);
        fails(t, 80010, 83000, 88000, 80020, 80090, 81000, 89000, 80600);
        succeeds(t, 90000, 91001);
        fails(t, 90001, 91000, 91002, 90002, 92000, 92001, 99000);
        // The reach counts for the command 8: house 3 is farther than 2 from the device 0.
        t.enter(3, 1, 0);
        fails(t, 83100);
        t.set(1, 3);
        succeeds(t, 83100);
    }

    private static void promise26otherDigits() {
        TaughtRemotes t = sample();
        fails(t, 0, 1, 9999, 60010, 68011, 70010, 78012, 80001, 80009, 83011);
        fails(t, 90100, 90010, 91011, 91101, 50110, 20011);
    }

    private static void promise26copy() {
        TaughtRemotes t = sample();
        String before = Due.seen(t);
        Due.answers(Due.NONE, "press and look", () -> t.runScript(2, 2000090001L));
        Due.answers(Due.NONE, "press twice and look", () -> t.runScript(3, 200002000090000L));
        Due.answers(1, "erase and press", () -> t.runScript(2, 3000020000L));
        Due.answers(Due.NONE, "teach and look", () -> t.runScript(2, 1008168101L));
        Due.answers(Due.NONE, "reach and look", () -> t.runScript(2, 4100080000L));
        Due.answers(1, "tolerance and look", () -> t.runScript(2, 5130080010L));
        Due.answers(0, "too far by a bit", () -> tolerant().runScript(1, 80000));
        Due.answers(1, "tolerance too small", () -> tolerant().runScript(2, 5000080000L));
        Due.answers(Due.NONE, "tolerance enough", () -> tolerant().runScript(2, 5010080000L));
        Due.answers(Due.NONE, "pressed then", () -> tolerant().runScript(3, 501002000090001L));
        Due.answers(1, "learned and gone", () -> t.runScript(2, 3800068001L));
        Due.same(before, Due.seen(t), "the state itself is as before");
        // The noise that a script sets is the noise that its teaching has: 5, of r % 10, is less
        // than 3 * 8 (a wrong bit more), not than 0 * 8.
        TaughtRemotes noise = Due.street("R9k000000");
        Due.answers(1, "no wrong bits", () -> noise.runScript(2, 1008078000L));
        Due.answers(Due.NONE, "noise 0", () -> noise.runScript(3, 400001008078000L));
        Due.answers(32, "x is as it was", () -> noise.teach(0, 0, 8, 0));
    }

    private static TaughtRemotes tolerant() {
        return Due.street("R2k000002d000000");
    }

    private static void promise27() {
        TaughtRemotes t = Due.street("R4k000005n3");
        Due.answers(1, "once", () -> t.simulate(0, 0, 7, 1));
        Due.answers(22049, "60 times", () -> t.simulate(0, 0, 7, 60));
        String before = Due.seen(t);
        t.simulate(0, 0, 1, 60);
        Due.same(before, Due.seen(t), "nothing is changed");
        t.set(0, 0);
        Due.answers(60000, "without noise", () -> t.simulate(0, 0, 7, 60));
        t.set(0, 3);
        t.enter(3, 5, 9);
        Due.answers(60000, "in the last house", () -> t.simulate(3, 5, 7, 60));
        TaughtRemotes far = Due.street("R9k804095k444095k000000k400100n3");
        Due.answers(4126, "from end to end", () -> far.simulate(0, 0, -1, 60));
        far.set(0, 1);
        Due.answers(28043, "noise 1", () -> far.simulate(0, 0, Long.MIN_VALUE, 60));
        far.set(0, 2);
        Due.answers(10012, "from the middle", () -> far.simulate(4, 0, 12345, 20));
    }

    private static void promise27refuses() {
        TaughtRemotes t = Due.street("R4k000005");
        Due.answers(Due.NONE, "no code", () -> t.simulate(1, 0, 7, 60));
        Due.refuses(Due.NO_PLACE, t, "house 4", () -> t.simulate(4, 0, 7, 60));
        Due.refuses(Due.NO_PLACE, t, "house -1, m 0", () -> t.simulate(-1, 0, 7, 0));
        Due.refuses(Due.NO_PLACE, t, "key 6", () -> t.simulate(0, 6, 7, 61));
        Due.refuses(Due.BAD_ARGUMENT, t, "m 0", () -> t.simulate(0, 0, 7, 0));
        Due.refuses(Due.BAD_ARGUMENT, t, "m 61", () -> t.simulate(0, 0, 7, 61));
        Due.refuses(Due.BAD_ARGUMENT, t, "m 61, no code", () -> t.simulate(1, 0, 7, 61));
    }
}
