/** Promises 23 and 24: runScript, simulate. */
public final class ScriptTest {
    public static void main(String[] args) {
        questions();
        keys();
        settings();
        dropping();
        knowing();
        counting();
        otherGroups();
        scriptsRunOnTheStateThatThereIs();
        commandsInARow();
        scriptsRefused();
        simulations();
        simulationsOnACopy();
        simulationsRefused();
        Check.end("ScriptTest");
    }

    private static void one(RiddleDrive x, long group, int due) {
        String before = Check.look(x);
        Check.due("runScript 1 " + group, x.runScript(1, group), due);
        Check.same("runScript 1 " + group + " changes nothing", Check.look(x), before);
    }

    private static void succeed(RiddleDrive x, long... groups) {
        for (long group : groups) {
            one(x, group, RiddleDrive.NONE);
        }
    }

    private static void fail(RiddleDrive x, long... groups) {
        for (long group : groups) {
            one(x, group, 0);
        }
    }

    private static void questions() {
        RiddleDrive x = Check.drive("K12k03q0205");
        succeed(x, 10002, 10011, 10911, 10204);
        fail(x, 10001, 11011, 11212, 10012, 11203, 10504, 19999, 11100);
    }

    private static void keys() {
        RiddleDrive x = Check.drive("K12k03q0205");
        succeed(x, 20000, 20010, 21110, 21100, 20310, 20300);
        fail(x, 21200, 21210, 29900, 20001, 20011, 20020, 20090, 20310 + 1, 20301);
    }

    private static void settings() {
        RiddleDrive x = Check.drive("K12k03q0205");
        succeed(x, 30100, 30800, 31000, 31400, 32000, 32900);
        fail(x, 30000, 30900, 31500, 33000, 33100, 39100, 30101, 30110, 32909, 32990);
    }

    private static void dropping() {
        RiddleDrive x = Check.drive("K12k03q0205q0407");
        succeed(x, 40000, 40100);
        fail(x, 40200, 49900, 40001, 40010, 40110);
        fail(new RiddleDrive(), 40000);
    }

    private static void knowing() {
        RiddleDrive x = Check.drive("K12w1s1k03k05q0303q0404");
        succeed(x, 50301, 50400);
        fail(x, 50300, 50401, 50500, 50501, 51200, 51201, 50302, 50309, 50311, 50410, 50390);
    }

    private static void counting() {
        RiddleDrive x = Check.drive("K12w1s1f9k03k05q0303q0404q0011");
        succeed(x, 60000, 60002, 70030, 70031, 70999, 80000, 80003, 90000, 90002);
        fail(x, 60003, 60099, 60102, 61002, 70029, 70000, 71030, 71999, 80004, 80099, 80100, 81000, 90003, 90099, 90102,
            91000);
        RiddleDrive y = Check.drive("K40s0w1q0039");
        succeed(y, 60040, 90000, 70011);
        fail(y, 60041, 90001, 70010);
        RiddleDrive z = Check.drive("K40w1f9");
        for (int i = 0; i < 25; i++) {
            z.ask(i, 39);
        }
        Check.due("paid", z.about(6), 391);
        succeed(z, 70391, 70400, 70999);
        fail(z, 70390, 70300, 70099, 70091);
    }

    private static void otherGroups() {
        RiddleDrive x = Check.drive("K12k03q0205");
        fail(x, 0, 1, 9999, 5);
    }

    private static void many(RiddleDrive x, int n, long script, int due) {
        String before = Check.look(x);
        Check.due("runScript " + n + " " + script, x.runScript(n, script), due);
        Check.same("runScript " + n + " " + script + " changes nothing", Check.look(x), before);
    }

    private static void commandsInARow() {
        RiddleDrive x = Check.drive("K12w1s1k03");
        many(x, 3, 103035030160001L, -1);
        many(x, 3, 103035030160002L, 2);
        many(x, 3, 103035030060002L, 1);
        many(x, 3, 112035030160001L, 0);
        many(x, 2, 2001090002L, -1);
        many(x, 2, 2001090003L, 1);
        many(x, 2, 2030090001L, 1);
        many(x, 3, 300021000110011L, 0);
        many(x, 3, 302001000110011L, -1);
        many(x, 3, 302001000010011L, 1);
        many(x, 3, 303001000110011L, 1);
        many(x, 3, 308001000611111L, 1);
        many(x, 3, 100114000080000L, -1);
        many(x, 3, 100114000080001L, 2);
        many(x, 2, 3290010003L, -1);
        many(x, 3, 329001000370010L, -1);
        many(x, 3, 329001000370009L, 2);
        many(x, 3, 103033120080001L, 2);
        many(x, 3, 103032030080001L, 2);
        many(x, 3, 103032031080001L, -1);
        many(x, 2, 1030360001L, -1);
        many(x, 2, 1030360002L, 1);
        many(x, 2, 3000160000L, 0);
        // fewer digits: the first groups are 00000
        many(x, 3, 1000210003L, 0);
        many(x, 2, 10002L, 0);
        many(x, 3, 0, 0);
    }

    private static void scriptsRefused() {
        RiddleDrive x = Check.drive("K12k03q0205");
        Check.argument(x, "runScript(0, 0)", () -> x.runScript(0, 0));
        Check.argument(x, "runScript(4, 0)", () -> x.runScript(4, 0));
        Check.argument(x, "runScript(-1, 0)", () -> x.runScript(-1, 0));
        Check.argument(x, "runScript(greatest, 10002)", () -> x.runScript(Integer.MAX_VALUE, 10002));
        Check.argument(x, "runScript(1, -1)", () -> x.runScript(1, -1));
        Check.argument(x, "runScript(3, smallest)", () -> x.runScript(3, Long.MIN_VALUE));
        Check.argument(x, "runScript(1, 100000)", () -> x.runScript(1, 100000));
        Check.argument(x, "runScript(2, 10000000000)", () -> x.runScript(2, 10000000000L));
        Check.argument(x, "runScript(3, 1000000000000000)", () -> x.runScript(3, 1000000000000000L));
        Check.argument(x, "runScript(3, greatest)", () -> x.runScript(3, Long.MAX_VALUE));
        Check.due("five nines", x.runScript(1, 99999), 0);
        Check.due("ten nines", x.runScript(2, 9999999999L), 0);
        Check.due("fifteen nines", x.runScript(3, 999999999999999L), 0);
    }

    private static void scriptsRunOnTheStateThatThereIs() {
        RiddleDrive x = Check.drive("K12k03q0205");
        x.resize(20);
        x.set(1, 0);
        x.write(19, true);
        x.ask(3, 19);
        one(x, 10019, -1);
        one(x, 90002, -1);
        one(x, 70007, -1);
        one(x, 70006, 0);
        one(x, 80002, 0);
        Check.due("a script behind a script", x.runScript(2, 1000680002L), -1);
        Check.due("is not led by it", x.runScript(2, 1000780003L), 1);
        int first = x.simulate(4, 12);
        Check.due("a simulation behind a simulation", x.simulate(4, 12), first);
        Check.due("is as by hand", first, byHand(x, 4, 12));
    }

    private static void simulated(RiddleDrive x, long seed, int m, int due) {
        Check.due("simulate " + seed + " " + m, x.simulate(seed, m), due);
    }

    /** The same questions, asked and written by hand. */
    private static int byHand(RiddleDrive x, long seed, int m) {
        long state = seed;
        int before = x.about(6);
        for (int i = 0; i < m; i++) {
            state = state * 6364136223846793005L + 1442695040888963407L;
            int r = (int) (state >>> 33);
            int a = r / 8 % x.about(0);
            int b = a + x.about(2) - 1 + r / 512 % 8;
            if (b < x.about(0)) {
                x.ask(a, b);
            } else if (r % 8 == 0) {
                x.write(a, !x.has(a));
            }
        }
        return 1000 * x.about(9) + Math.min(999, x.about(6) - before);
    }

    private static void simulations() {
        String[] texts = {"K16", "K08w1s0k03k05", "K40w8s4f9k01k39", "K12w1s1f0k11", "K16s0f9q0015q0007"};
        long[] seeds = {0, 1, -1, 20261119, Long.MAX_VALUE, Long.MIN_VALUE, 12345678901234567L};
        for (String text : texts) {
            for (long seed : seeds) {
                for (int m : new int[] {1, 2, 9, 30}) {
                    simulated(Check.drive(text), seed, m, byHand(Check.drive(text), seed, m));
                }
            }
        }
        // for seed 0, r is 167951807: of 8 places a is 7 and b is 13, and r % 8 is 7, so nothing happens
        simulated(Check.drive("K08w1s0f3"), 0, 1, 0);
        // of 11 places a is 2 and b is 2 + 0 + 6: seven places for 3 + 1
        simulated(Check.drive("K11w1s0f3"), 0, 1, 7004);
        simulated(Check.drive("K11w3s0f3"), 0, 1, 9005);
        simulated(Check.drive("K11w4s0f3"), 0, 1, 0);
    }

    private static void simulationsOnACopy() {
        RiddleDrive x = Check.drive("K12w1s2f4k03q0205q0008");
        x.write(9, true);
        String before = Check.look(x);
        int first = x.simulate(77, 30);
        Check.same("simulate changes nothing", Check.look(x), before);
        Check.due("simulate answers the same again", x.simulate(77, 30), first);
        Check.due("simulate is no action", x.undo(), 0);
    }

    private static void simulationsRefused() {
        RiddleDrive x = Check.drive("K12k03q0205");
        Check.argument(x, "simulate(5, 0)", () -> x.simulate(5, 0));
        Check.argument(x, "simulate(5, 31)", () -> x.simulate(5, 31));
        Check.argument(x, "simulate(5, -1)", () -> x.simulate(5, -1));
        Check.argument(x, "simulate(5, smallest)", () -> x.simulate(5, Integer.MIN_VALUE));
        Check.argument(x, "simulate(5, greatest)", () -> x.simulate(5, Integer.MAX_VALUE));
    }
}
