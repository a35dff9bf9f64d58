/** Promises 22 to 25: what would be. */
public final class WouldBeTest {
    public static void main(String[] args) {
        promise22();
        promise23();
        promise24();
        promise24nothing();
        promise25();
        roomForRecords();
        Due.end("WouldBeTest");
    }

    private static void promise22() {
        TaughtRemotes t = Due.street("R9k000100");
        int[] want = {100, 100, 100, 100, 100, 68, 68, 68, 68};
        for (int to = 0; to < want.length; to++) {
            int house = to;
            Due.answers(want[to], "wouldBe(0, 0, " + to + ")", () -> t.wouldBe(0, 0, house));
        }
        Due.answers(Due.NONE, "no code", () -> t.wouldBe(1, 0, 8));
        String before = Due.seen(t);
        t.wouldBe(0, 0, 8);
        Due.same(before, Due.seen(t), "nothing is changed");
        Due.answers(68, "it is so then", () -> t.teach(0, 0, 8, 0));
        Due.answers(100 ^ 512, "with the next x", () -> t.wouldBe(0, 0, 8));
        t.set(0, 0);
        Due.answers(100, "without noise", () -> t.wouldBe(0, 0, 8));
        Due.refuses(Due.NO_PLACE, t, "wouldBe(9, 0, 0)", () -> t.wouldBe(9, 0, 0));
        Due.refuses(Due.NO_PLACE, t, "wouldBe(0, 6, 0)", () -> t.wouldBe(0, 6, 0));
        Due.refuses(Due.NO_PLACE, t, "wouldBe(0, 0, 9)", () -> t.wouldBe(0, 0, 9));
        Due.refuses(Due.NO_PLACE, t, "wouldBe(1, 0, -1)", () -> t.wouldBe(1, 0, -1));
    }

    /** With noise 3 over one house, of r % 10 = 4, 3, 6, 0, 5, 5, 0, 2 from x = 1 the fourth, the
     * seventh and the eighth are less, in the bits 6, 1 and 7. */
    private static void promise23() {
        TaughtRemotes t = Due.street("R9k000000k814095k400001n3");
        int[] up = {0, 0, 0, 0, 64, 64, 64, 66, 194};
        for (int to = 0; to < up.length; to++) {
            int house = to;
            Due.answers(up[to], "handed(0, 0, " + to + ")", () -> t.handed(0, 0, house));
            Due.answers(4095 ^ up[8 - to], "handed(8, 1, " + to + ")",
                    () -> t.handed(8, 1, house));
        }
        Due.answers(65, "from the middle down", () -> t.handed(4, 0, 0));
        Due.answers(65, "from the middle up", () -> t.handed(4, 0, 8));
        Due.answers(1, "not far", () -> t.handed(4, 0, 7));
        Due.answers(1, "the code itself", () -> t.handed(4, 0, 4));
        Due.answers(Due.NONE, "no code", () -> t.handed(1, 0, 2));
        Due.answers(Due.NONE, "no code, the same house", () -> t.handed(1, 0, 1));
        t.teach(0, 0, 0, 1);
        Due.answers(64, "x is not changed, but by teach", () -> t.handed(0, 0, 3));
        Due.refuses(Due.NO_PLACE, t, "handed(9, 0, 0)", () -> t.handed(9, 0, 0));
        Due.refuses(Due.NO_PLACE, t, "handed(0, -1, 0)", () -> t.handed(0, -1, 0));
        Due.refuses(Due.NO_PLACE, t, "handed(0, 0, 9)", () -> t.handed(0, 0, 9));
        Due.refuses(Due.NO_PLACE, t, "handed(0, 0, -1)", () -> t.handed(0, 0, -1));
    }

    private static void promise24() {
        // Over 5 houses or more, bit 5 is wrong; over fewer none is.
        TaughtRemotes t = Due.street("R9k000001k110003k820037d000000d300371d800330");
        Due.answers(0, "0 is nearest to 0", () -> t.bestTeacher(0, 0));
        Due.answers(82, "37 becomes 5 on its way to 0", () -> {
            t.addDevice(0, 5, 0);
            return t.bestTeacher(0, 3);
        });
        Due.answers(0, "1 becomes 33 on its way to 8, 37 stays", () -> t.bestTeacher(8, 2));
        Due.answers(82, "37 stays 37 in its own house", () -> t.bestTeacher(8, 1));
        TaughtRemotes ties = Due.street("R4k350001k020002k010004k100008d000000");
        Due.answers(1, "the smallest of those as good", () -> ties.bestTeacher(0, 0));
        ties.erase(0, 1);
        Due.answers(2, "the next one", () -> ties.bestTeacher(0, 0));
        ties.erase(0, 2);
        Due.answers(10, "in the next house", () -> ties.bestTeacher(0, 0));
        ties.erase(1, 0);
        Due.answers(35, "the last of all keys", () -> ties.bestTeacher(3, 0));
        ties.enter(2, 5, 0);
        Due.answers(25, "a better one, later", () -> ties.bestTeacher(3, 0));
        Due.refuses(Due.NO_PLACE, t, "bestTeacher(9, 0)", () -> t.bestTeacher(9, 0));
        Due.refuses(Due.NO_PLACE, t, "bestTeacher(-1, 0)", () -> t.bestTeacher(-1, 0));
        Due.refuses(Due.NO_PLACE, t, "bestTeacher(0, 4)", () -> t.bestTeacher(0, 4));
        Due.refuses(Due.NO_PLACE, t, "bestTeacher(0, -1)", () -> t.bestTeacher(0, -1));
    }

    private static void promise24nothing() {
        TaughtRemotes t = Due.street("R2d000000");
        Due.answers(Due.NONE, "no key has a code", () -> t.bestTeacher(1, 0));
        t.enter(1, 5, 4095);
        Due.answers(15, "as far as can be", () -> t.bestTeacher(1, 0));
    }

    private static void promise25() {
        TaughtRemotes t = Due.street("R9k000000k010001k050000d800000d000010d000020n3s0");
        Due.answers(0, "the roots themselves", () -> t.leastTolerance(0));
        t.teach(0, 0, 8, 0);
        Due.answers(1, "one bit", () -> t.leastTolerance(0));
        t.teach(8, 0, 0, 2);
        Due.answers(2, "two bits", () -> t.leastTolerance(0));
        t.teach(0, 2, 8, 3);
        Due.answers(3, "three bits", () -> t.leastTolerance(0));
        t.teach(8, 3, 0, 4);
        Due.answers(Due.NONE, "four bits", () -> t.leastTolerance(0));
        Due.answers(0, "another root", () -> t.leastTolerance(1));
        Due.answers(0, "no key comes from it", () -> t.leastTolerance(2));
        t.erase(0, 4);
        Due.answers(3, "only codes that keys have", () -> t.leastTolerance(0));
        // The root counts also when its key has another code by now.
        t.erase(0, 0);
        t.erase(0, 5);
        t.erase(8, 0);
        t.erase(0, 2);
        Due.answers(3, "the root's key has no code", () -> t.leastTolerance(0));
        Due.refuses(Due.NO_PLACE, t, "leastTolerance(3)", () -> t.leastTolerance(3));
        Due.refuses(Due.NO_PLACE, t, "leastTolerance(-1)", () -> t.leastTolerance(-1));
    }

    private static void roomForRecords() {
        TaughtRemotes t = Due.street("R9k000100d000000");
        for (int i = 1; i < 40; i++) {
            t.enter(0, 0, 100);
        }
        Due.answers(68, "wouldBe with 40 records", () -> t.wouldBe(0, 0, 8));
        Due.answers(100, "handed with 40 records", () -> t.handed(0, 0, 1));
        Due.answers(0, "bestTeacher with 40 records", () -> t.bestTeacher(8, 0));
        Due.answers(60000, "simulate with 40 records", () -> {
            t.set(0, 0);
            return t.simulate(0, 0, 1, 60);
        });
        Due.answers(0, "a script that teaches", () -> t.runScript(1, 10010));
    }
}
