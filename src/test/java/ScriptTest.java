/** Promises 23 and 24: runScript, simulate. */
public final class ScriptTest {
    /** 12 places with keys at 3 and 5, width 1; place 3 has a key for sure, place 4 has none; 3 answers, 30 paid. */
    private static final String STORY = "K12w1s1f9k03k05q0303q0404q0011";
    private static final long FACTOR = 6364136223846793005L;
    private static final long ADDED = 1442695040888963407L;

    public static void main(String[] args) {
        runScript();
        commands();
        failing();
        scriptArguments();
        simulate();
        simulateArguments();
        Check.end("ScriptTest", "Promise 23", "Promise 24");
    }

    private static void run(RiddleDrive x, int n, long script, int due) {
        Check.due("runScript " + n + " " + script, x.runScript(n, script), due);
    }

    private static void run(String text, int n, long script, int due) {
        run(Check.drive(text), n, script, due);
    }

    private static void succeed(String text, int... groups) {
        for (int group : groups) {
            run(text, 1, group, -1);
        }
    }

    private static void fail(String text, int... groups) {
        for (int group : groups) {
            run(text, 1, group, 0);
        }
    }

    // ---- promise 23: how a script runs

    private static void runScript() {
        String s = "Promise 23";
        Check.sentence(s, "Runs a script on a copy of the state. ", ScriptTest::onACopy);
        Check.sentence(s, "A script has 1 to 3 commands; ", ScriptTest::oneToThree);
        Check.sentence(s, "each is a group of five decimal digits d1 to d5, and the first command is the highest group "
            + "of the number ", ScriptTest::highestFirst);
        Check.sentence(s, "(with zeros before it, if it has fewer digits).", ScriptTest::zerosBefore);
    }

    private static void onACopy() {
        for (long script : new long[] {100062001040000L, 314002030030800L, 200101001140100L, 99999L}) {
            Check.unchanged(Check::busy, "runScript 3 " + script, x -> x.runScript(3, script));
        }
        RiddleDrive x = Check.drive("K12k03q0205");
        run(x, 2, 1000680002L, -1);
        run(x, 2, 1000680003L, 1);
        x.resize(20);
        x.set(1, 0);
        x.write(19, true);
        x.ask(3, 19);
        run(x, 1, 10019, -1);
        run(x, 1, 90002, -1);
        run(x, 1, 70007, -1);
        run(x, 1, 70006, 0);
        run(x, 1, 80001, -1);
        run(x, 1, 80002, 0);
    }

    private static void oneToThree() {
        run(STORY, 1, 20010, -1);
        run(STORY, 2, 2001090003L, -1);
        run(STORY, 2, 2001090004L, 1);
        run(STORY, 3, 200102021090004L, -1);
        run(STORY, 3, 200102021090005L, 2);
        run(STORY, 3, 200102020190004L, 1);
    }

    private static void highestFirst() {
        // a question only fits behind the width that is set before it
        run("K12k03", 2, 3010010000L, -1);
        run("K12k03", 2, 1000030100L, 0);
        run("K12k03", 3, 302001000130300L, -1);
        run("K12k03", 3, 303001000130200L, 1);
        run(STORY, 3, 212001040190000L, 0);
    }

    private static void zerosBefore() {
        run(STORY, 1, 0, 0);
        run(STORY, 1, 9, 0);
        run(STORY, 2, 10002, 0);
        run(STORY, 3, 1000210003L, 0);
        run(STORY, 3, 10002, 0);
        run(STORY, 3, 0, 0);
        run(STORY, 2, 999990000L, 0);
    }

    // ---- promise 23: the commands

    private static void commands() {
        String s = "Promise 23";
        Check.sentence(s, "1 a a b b: ask(aa, bb).", ScriptTest::asks);
        Check.sentence(s, "2 i i k 0: write(ii, k is 1) (k is 0 or 1).", ScriptTest::writes);
        Check.sentence(s, "3 w v 0 0: set(w, v).", ScriptTest::sets);
        Check.sentence(s, "4 i i 0 0: forget(ii).", ScriptTest::forgets);
        Check.sentence(s, "5 i i 0 k: succeeds if the place ii surely has a key (k is 1), or surely has none (k is 0).",
            ScriptTest::surely);
        Check.sentence(s, "6 0 0 n n: succeeds if at least nn places are known.", ScriptTest::knownPlaces);
        Check.sentence(s, "7 0 x y z: succeeds if at most xyz was paid so far.", ScriptTest::paid);
        Check.sentence(s, "8 0 0 n n: succeeds if at least nn answers are kept.", ScriptTest::kept);
        Check.sentence(s, "9 0 0 n n: succeeds if there are at least nn keys.", ScriptTest::keys);
    }

    private static void asks() {
        succeed("K12k03q0205", 10002, 10011, 10911, 10204);
        run(STORY, 2, 1001180003L, -1);
        run(STORY, 2, 1001080004L, -1);
        run(STORY, 2, 1000070039L, -1);
        run(STORY, 2, 1000070038L, 1);
        run(STORY, 3, 105055050150301L, -1);
    }

    private static void writes() {
        succeed("K12k03q0205", 20000, 20010, 21110, 21100, 20310, 20300);
        run(STORY, 2, 2000090002L, -1);
        run(STORY, 2, 2000090003L, 1);
        run(STORY, 2, 2001090003L, -1);
        run(STORY, 2, 2030090001L, -1);
        run(STORY, 2, 2030090002L, 1);
        run(STORY, 2, 2031080003L, -1);
        run(STORY, 2, 2030080001L, -1);
        run(STORY, 2, 2030080002L, 1);
    }

    private static void sets() {
        succeed("K12k03q0205", 30100, 30800, 31000, 31400, 32000, 32900);
        run("K12", 3, 308001000710007L, -1);
        run("K12", 2, 3080010006L, 1);
        run(STORY, 2, 3100080003L, 1);
        run(STORY, 2, 3110080003L, -1);
        run(STORY, 3, 310001000060001L, -1);
        run(STORY, 3, 310001000050000L, -1);
        run(STORY, 3, 320001000070030L, -1);
    }

    private static void forgets() {
        succeed(STORY, 40000, 40100, 40200);
        fail(STORY, 40300, 41200);
        run(STORY, 2, 4000080002L, -1);
        run(STORY, 2, 4000080003L, 1);
        run(STORY, 2, 4000050301L, 1);
        run(STORY, 2, 4010050301L, -1);
        run(STORY, 3, 400004000040000L, -1);
        run(STORY, 3, 400004010040100L, 2);
    }

    private static void surely() {
        succeed(STORY, 50301, 50400);
        fail(STORY, 50300, 50401, 50500, 50501, 50000, 50001, 51100, 51101);
        succeed("K40w1s1k39q0039q0038", 53901, 53800, 50000);
    }

    private static void knownPlaces() {
        succeed(STORY, 60000, 60001, 60002);
        fail(STORY, 60003, 60010, 60099);
        succeed("K40s0w1q0039", 60040);
        fail("K40s0w1q0039", 60041);
        succeed("K12", 60000);
        fail("K12", 60001);
    }

    private static void paid() {
        succeed(STORY, 70030, 70031, 70100, 70999);
        fail(STORY, 70029, 70000, 70003);
        succeed("K12", 70000);
        RiddleDrive x = Check.drive("K40w1f9");
        for (int i = 0; i < 25; i++) {
            x.ask(i, 39);
        }
        Check.due("paid", x.about(6), 391);
        run(x, 1, 70391, -1);
        run(x, 1, 70400, -1);
        run(x, 1, 70390, 0);
        run(x, 1, 70300, 0);
        run(x, 1, 70099, 0);
    }

    private static void kept() {
        succeed(STORY, 80000, 80003);
        fail(STORY, 80004, 80099);
        succeed("K12", 80000);
        fail("K12", 80001);
        run(QuestionTest.full(), 1, 80012, -1);
        run(QuestionTest.full(), 1, 80013, 0);
        run(QuestionTest.full(), 2, 1303980012L, -1);
        run(QuestionTest.full(), 2, 1303980013L, 1);
    }

    private static void keys() {
        succeed(STORY, 90000, 90002);
        fail(STORY, 90003, 90099);
        succeed("K12", 90000);
        fail("K12", 90001);
        RiddleDrive x = new RiddleDrive();
        x.resize(40);
        for (int i = 0; i < 40; i++) {
            x.write(i, true);
        }
        run(x, 1, 90040, -1);
        run(x, 1, 90041, 0);
    }

    // ---- promise 23: what fails

    private static void failing() {
        String s = "Promise 23";
        Check.sentence(s, "The commands 1 to 4 fail if the method would throw an exception; ",
            ScriptTest::refusedCommands);
        Check.sentence(s, "commands with places that do not exist fail, ", ScriptTest::noSuchPlaces);
        Check.sentence(s, "and so does any other group ", ScriptTest::otherGroups);
        Check.sentence(s, "(also one with another digit where a 0 is written).", ScriptTest::otherDigits);
        Check.sentence(s, "aa, bb, ii, nn and xyz are decimal numbers.", ScriptTest::decimalNumbers);
        Check.sentence(s, "Returns the index, from 0, of the first command that fails; ", ScriptTest::firstThatFails);
        Check.sentence(s, "NONE if all succeed.", ScriptTest::allSucceed);
    }

    private static void refusedCommands() {
        String text = "K12k03q0205";
        fail(text, 10001, 10504, 11100, 10505, 11111);
        fail(text, 21200, 21210, 29900);
        fail(text, 30000, 30900, 31500, 33000, 33100, 39100);
        fail(text, 40100, 40200, 41200, 49900);
        fail("K12", 40000);
        run("K16w2q0003w5", 1, 10003, 0);
        run(QuestionTest.full(), 1, 41100, -1);
        run(QuestionTest.full(), 1, 41200, 0);
    }

    private static void noSuchPlaces() {
        fail(STORY, 10012, 11203, 11212, 19999, 11099, 21200, 21210, 51200, 51201, 59900, 59901);
        succeed(STORY, 10011, 11111, 21100);
        fail("K08w1", 10008, 10808, 20810, 50800, 50801);
        succeed("K08w1s1q0007", 10007, 20710, 50700);
        fail("K40w1", 10040, 14040, 24010, 54000);
        succeed("K40w1s1q0039", 10039, 13939, 23910, 53900);
    }

    /** Every group that there is, on one drive. */
    private static void otherGroups() {
        RiddleDrive x = null;
        int wrong = 0;
        for (int group = 0; group <= 99999; group++) {
            x = group % 400 == 0 ? Check.drive(STORY) : x;
            int due = succeeds(group / 10000, group / 100 % 100, group / 10 % 10, group % 10) ? -1 : 0;
            if (x.runScript(1, group) != due) {
                wrong++;
                run(STORY, 1, group, due);
            }
        }
        Check.due("wrong groups", wrong, 0);
    }

    /** Of STORY: the first digit, the next two as a number, and the last two. */
    private static boolean succeeds(int first, int two, int d4, int d5) {
        int last = 10 * d4 + d5;
        switch (first) {
            case 1: return two <= last && last < 12;
            case 2: return two < 12 && d4 <= 1 && d5 == 0;
            case 3: return last == 0 && (two >= 1 && two <= 8 || two >= 10 && two <= 14 || two >= 20 && two <= 29);
            case 4: return two < 3 && last == 0;
            case 5: return two == 3 && last == 1 || two == 4 && last == 0;
            case 6: return two == 0 && last <= 2;
            case 7: return two < 10 && 100 * two + last >= 30;
            case 8: return two == 0 && last <= 3;
            case 9: return two == 0 && last <= 2;
            default: return false;
        }
    }

    private static void otherDigits() {
        fail(STORY, 20001, 20009, 20011, 20020, 20090, 20311);
        fail(STORY, 30101, 30110, 30190, 32909, 32990);
        fail(STORY, 40001, 40009, 40010, 40090);
        fail(STORY, 50311, 50391, 50302, 50309, 50410, 50402);
        fail(STORY, 60100, 61000, 69002, 60902);
        fail(STORY, 71030, 79999, 71999);
        fail(STORY, 80100, 81000, 80901, 89000);
        fail(STORY, 90100, 91000, 90902, 99000);
    }

    private static void decimalNumbers() {
        run("K40w1s1k27q2727", 1, 52701, -1);
        run("K40w1s1k27q2727", 1, 57201, 0);
        run("K40", 2, 1091280001L, -1);
        run("K40", 3, 109128000140000L, -1);
        run("K40", 3, 210102091090002L, -1);
        run("K40w1f9q0039q0039q0139", 1, 70037, -1);
        run("K40w1f9q0039q0039q0139", 1, 70036, 0);
    }

    private static void firstThatFails() {
        run(STORY, 3, 103035030160003L, 2);
        run(STORY, 3, 103035030060003L, 1);
        run(STORY, 3, 112035030060003L, 0);
        run(STORY, 3, 112035030160000L, 0);
        run(STORY, 3, 600005030060000L, 1);
        run(STORY, 2, 6000360003L, 0);
        run(STORY, 2, 6000060003L, 1);
        run(STORY, 1, 60003, 0);
    }

    private static void allSucceed() {
        run(STORY, 1, 60002, RiddleDrive.NONE);
        run(STORY, 2, 6000260001L, RiddleDrive.NONE);
        run(STORY, 3, 600026000160000L, RiddleDrive.NONE);
    }

    // ---- promise 23: the arguments

    private static void scriptArguments() {
        String s = "Promise 23";
        Check.sentence(s, "n: number of commands, 1 to 3", ScriptTest::numbers);
        Check.sentence(s, "script: the commands, a number of at most 5 * n digits (0 or more)", ScriptTest::digits);
        Check.sentence(s, "Throws IllegalArgumentException if n is out of range, ", ScriptTest::numbersRefused);
        Check.sentence(s, "or if script is negative or has more than 5 * n digits", ScriptTest::digitsRefused);
    }

    private static void numbers() {
        for (int n = 1; n <= 3; n++) {
            int number = n;
            Check.passes(Check::busy, "runScript " + n, x -> x.runScript(number, 10011));
            run(STORY, n, 10011, n == 1 ? -1 : 0);
        }
    }

    private static void digits() {
        run(STORY, 1, 99999, 0);
        run(STORY, 2, 9999999999L, 0);
        run(STORY, 3, 999999999999999L, 0);
        run(STORY, 1, 0, 0);
        run(STORY, 2, 0, 0);
        run(STORY, 3, 0, 0);
        run(STORY, 2, 100000, 0);
        run(STORY, 3, 10000000000L, 0);
    }

    private static void numbersRefused() {
        for (int n : new int[] {0, 4, -1, -3, Integer.MIN_VALUE, Integer.MAX_VALUE}) {
            for (long script : new long[] {0, 10011, -1, Long.MAX_VALUE, Long.MIN_VALUE}) {
                Check.argument(Check::busy, "runScript " + n + " " + script, x -> x.runScript(n, script));
            }
        }
    }

    private static void digitsRefused() {
        long[][] wrong = {
            {1, -1}, {2, -1}, {3, -1}, {1, -10011}, {3, Long.MIN_VALUE}, {1, 100000}, {1, 110011}, {2, 10000000000L},
            {3, 1000000000000000L}, {1, 10000000000L}, {1, Long.MAX_VALUE}, {2, Long.MAX_VALUE}, {3, Long.MAX_VALUE},
            {1, (1L << 32) + 10011},
        };
        for (long[] w : wrong) {
            Check.argument(Check::busy, "runScript " + w[0] + " " + w[1], x -> x.runScript((int) w[0], w[1]));
        }
    }

    // ---- promise 24

    private static void simulate() {
        String s = "Promise 24";
        Check.sentence(s, "Simulates m questions on a copy of the state. ", ScriptTest::simulatedOnACopy);
        Check.sentence(s, "A long x starts as the seed. ", ScriptTest::seedsDiffer);
        Check.sentence(s, "Before each question, x is replaced by x * 6364136223846793005L + 1442695040888963407L "
            + "(with long overflow), and r = (int) (x >>> 33) is computed.", ScriptTest::overflows);
        Check.sentence(s, "N is the number of places, W the width. Let a be r / 8 % N, ", ScriptTest::firstPlaces);
        Check.sentence(s, "and b the sum of a, W - 1 and r / 512 % 8.", ScriptTest::lastPlaces);
        Check.sentence(s, "If b is less than N, the range from a to b is asked for; ", ScriptTest::askedFor);
        Check.sentence(s, "otherwise, if r % 8 is 0, the key at a is written if there is none, ",
            ScriptTest::keyIsWritten);
        Check.sentence(s, "and removed if there is one; ", ScriptTest::keyIsRemoved);
        Check.sentence(s, "otherwise nothing happens.", ScriptTest::nothingHappens);
        Check.sentence(s, "Returns 1000 * (the places that are known at the end) + ", ScriptTest::knownAtTheEnd);
        Check.sentence(s, "(what is paid in them, or 999 if it is more).", ScriptTest::paidInThem);
    }

    private static void simulated(String text, long seed, int m, int due) {
        Check.due(text + " simulate " + seed + " " + m, Check.drive(text).simulate(seed, m), due);
    }

    /** The r that leads to this a on so many places, with more = r / 512 % 8 and rest = r % 8. */
    private static int random(int places, int a, int more, int rest) {
        for (int q = 64 * more; q < 64 * more + 64; q++) {
            if (q % places == a) {
                return 8 * q + rest;
            }
        }
        throw new IllegalStateException("no such r");
    }

    /** The seed whose first r is this one. */
    private static long seedOf(int r) {
        return seedOf(r, 0);
    }

    /** The seed whose first x has this r above its 33 lowest bits, which are free. */
    private static long seedOf(int r, long lowest) {
        long inverse = FACTOR;
        for (int i = 0; i < 6; i++) {
            inverse *= 2 - FACTOR * inverse;
        }
        return (((long) r << 33 | lowest) - ADDED) * inverse;
    }

    /** The same questions, asked and written by hand on the drive itself. */
    private static int byHand(RiddleDrive x, long seed, int m) {
        long state = seed;
        int before = x.about(6);
        for (int i = 0; i < m; i++) {
            state = state * FACTOR + ADDED;
            int r = (int) (state >>> 33);
            int a = r / 8 % x.about(0);
            int b = a + x.about(2) - 1 + r / 512 % 8;
            if (b < x.about(0)) {
                x.ask(a, b);
            } else if (r % 8 == 0) {
                x.write(a, !x.has(a));
            }
        }
        return 1000 * x.about(9) + Math.min(999, x.about(6) - before);
    }

    private static void asByHand(String text, long seed, int m) {
        simulated(text, seed, m, byHand(Check.drive(text), seed, m));
    }

    private static void simulatedOnACopy() {
        Check.unchanged(Check::busy, "simulate(77, 30)", x -> x.simulate(77, 30));
        Check.unchanged(Check::crowded, "simulate(78, 30)", x -> x.simulate(78, 30));
        RiddleDrive x = Check.drive("K12w1s2f4k03q0205q0008");
        int first = x.simulate(77, 30);
        Check.due("the same again", x.simulate(77, 30), first);
        Check.due("as by hand", first, byHand(x, 77, 30));
        int second = x.simulate(77, 30);
        Check.due("from the state that there is then", second, byHand(x, 77, 30));
    }

    private static void seedsDiffer() {
        // for seed 0, r is 167951807: of 11 places a is 2 and b is 2 + 0 + 6: seven places for 3 + 1
        simulated("K11w1s0f3", 0, 1, 7004);
        // of 8 places a is 7 and b is 13, and r % 8 is 7, so nothing happens
        simulated("K08w1s0f3", 0, 1, 0);
        for (long seed = 1; seed <= 40; seed++) {
            asByHand("K16w1s0", seed, 1);
        }
    }

    private static void overflows() {
        long[] seeds = {1, -1, 20261119, Long.MAX_VALUE, Long.MIN_VALUE, 12345678901234567L, 1L << 33};
        for (String text : new String[] {"K16", "K08w1s0k03k05", "K40w8s4f9k01k39", "K12w1s1f0k11", "K16s0f9q0015"}) {
            for (long seed : seeds) {
                asByHand(text, seed, 2);
                asByHand(text, seed, 9);
                asByHand(text, seed, 30);
            }
        }
    }

    private static void firstPlaces() {
        for (int a = 0; a < 12; a++) {
            RiddleDrive x = Check.drive("K12w1s0k0" + a % 8);
            int seeds = 0;
            for (int rest = 0; rest < 8; rest++) {
                seeds += x.simulate(seedOf(random(12, a, 0, rest)), 1) == 1001 ? 1 : 0;
            }
            Check.due("one place asked for, whatever r % 8 is", seeds, 8);
            simulated("K12w1s0q" + two(a) + two(a), seedOf(random(12, a, 0, 3)), 1, 1000);
        }
        // the greatest r that there is: 2147483647 / 8 % 11 is 2, and 2147483647 / 512 % 8 is 7
        simulated("K11w1s0", seedOf(Integer.MAX_VALUE), 1, 8003);
        // the smallest one
        simulated("K11w1s0", seedOf(0), 1, 1001);
    }

    private static String two(int v) {
        return "" + v / 10 + v % 10;
    }

    private static void lastPlaces() {
        for (int width = 1; width <= 8; width++) {
            for (int more = 0; more <= 7; more++) {
                int places = width + more;
                simulated("K16s0f9w" + width, seedOf(random(16, 1, more, 0)), 1, 1000 * places + 9 + places / 4);
            }
        }
    }

    private static void askedFor() {
        // 9 to 15 is asked for, 9 to 16 is not
        simulated("K16w1s0", seedOf(random(16, 9, 6, 0)), 1, 7002);
        simulated("K16w1s0", seedOf(random(16, 9, 7, 0)), 1, 0);
        simulated("K16w8s0", seedOf(random(16, 8, 0, 0)), 1, 8003);
        simulated("K16w8s0", seedOf(random(16, 9, 0, 0)), 1, 0);
        simulated("K08w8s0", seedOf(random(8, 0, 0, 5)), 1, 8003);
        simulated("K08w8s0", seedOf(random(8, 0, 1, 5)), 1, 0);
        simulated("K40w1s0", seedOf(random(40, 39, 0, 0)), 1, 1001);
        // it is free if there is an answer about just this range
        simulated("K16w1s0q0915", seedOf(random(16, 9, 6, 0)), 1, 7000);
        // with 12 answers the oldest one is forgotten
        simulated("K16w1s0q0000q0101q0202q0303q0404q0505q0606q0707q0808q0909q1010q1111",
            seedOf(random(16, 15, 0, 0)), 1, 12001);
    }

    private static void keyIsWritten() {
        // place 15 is known, 15 to 16 is no range: a key is written, so the answer about 15 is forgotten
        simulated("K16w1s0q1515q0000", seedOf(random(16, 15, 1, 0)), 1, 1000);
        twoSteps("K08w1s1");
    }

    private static void keyIsRemoved() {
        simulated("K16w1s0k15q1515q0000", seedOf(random(16, 15, 1, 0)), 1, 1000);
        twoSteps("K08w1s1k00k01k02k03k04k05k06k07");
    }

    /**
     * Seeds whose first step changes the key at 7 and whose second asks for 6 to 7: where all places are alike before,
     * one of both has a key then, so nothing is known; if no key were changed, both would be.
     */
    private static void twoSteps(String text) {
        int found = 0;
        for (int n = 0; n < 2000; n++) {
            long seed = seedOf(random(8, 7, 1 + n % 7, 0), 4294967L * n);
            long x = (seed * FACTOR + ADDED) * FACTOR + ADDED;
            int second = (int) (x >>> 33);
            if (second / 8 % 8 == 6 && second / 512 % 8 == 1) {
                found++;
                simulated(text, seed, 2, 1);
            }
        }
        Check.due("there are such seeds", found > 0, true);
    }

    private static void nothingHappens() {
        for (int rest = 1; rest <= 7; rest++) {
            simulated("K16w1s0q1515q0000", seedOf(random(16, 15, 1, rest)), 1, 2000);
            simulated("K16w1s0k15q1515q0000", seedOf(random(16, 15, 7, rest)), 1, 2000);
        }
    }

    private static void knownAtTheEnd() {
        simulated("K40s1q0039", seedOf(random(40, 39, 1, 1)), 1, 40000);
        simulated("K40", seedOf(random(40, 39, 1, 1)), 1, 0);
        simulated("K40s0w1", seedOf(random(40, 3, 4, 1)), 1, 5002);
        for (long seed = 0; seed < 60; seed++) {
            asByHand("K20w1s0k03k04k11", seed, 30);
            asByHand("K09w2s1k03k04", seed, 30);
            asByHand("K14w1s2f0k13q0013", seed, 17);
        }
    }

    private static void paidInThem() {
        // what was paid before is not counted
        simulated("K16w1s0f9q0015q0014q0013", seedOf(random(16, 1, 6, 0)), 1, 16010);
        // as much as one question can cost; 30 of them stay far below 999
        simulated("K40w8s4f9", seedOf(random(40, 3, 7, 0)), 1, 12);
        int most = 0;
        for (long seed = 0; seed < 200; seed++) {
            int paid = Check.drive("K40w8s4f9").simulate(seed, 30) % 1000;
            asByHand("K40w8s4f9", seed, 30);
            most = Math.max(most, paid);
        }
        Check.due("much can be paid", most > 250 && most <= 360, true);
    }

    private static void simulateArguments() {
        String s = "Promise 24";
        Check.sentence(s, "seed: any long", ScriptTest::anySeed);
        Check.sentence(s, "m: number of questions, 1 to 30", ScriptTest::anyNumber);
        Check.sentence(s, "Throws IllegalArgumentException if m is out of range", ScriptTest::numberRefused);
    }

    private static void anySeed() {
        long[] seeds = {0, -1, 1, Long.MAX_VALUE, Long.MIN_VALUE, Integer.MIN_VALUE, 1L << 62, 1L << 63 >> 5};
        for (long seed : seeds) {
            asByHand("K12w1s1f3k05", seed, 5);
        }
    }

    private static void anyNumber() {
        for (int m = 1; m <= 30; m++) {
            asByHand("K12w1s1f3k05", 20261120, m);
        }
    }

    private static void numberRefused() {
        for (int m : new int[] {0, 31, -1, -30, 32, Integer.MIN_VALUE, Integer.MAX_VALUE}) {
            for (long seed : new long[] {0, 5, Long.MIN_VALUE}) {
                Check.argument(Check::busy, "simulate " + seed + " " + m, x -> x.simulate(seed, m));
            }
        }
    }
}
