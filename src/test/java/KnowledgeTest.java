/** Promises 9 to 12: least, most, known, knownAt. */
public final class KnowledgeTest {
    public static void main(String[] args) {
        nothingIsKnownAtFirst();
        oneNumber();
        fewIsABound();
        answersWorkTogether();
        longChains();
        widestDrive();
        knownPlaces();
        knownAtCounts();
        refused();
        Check.end("KnowledgeTest");
    }

    private static void bounds(RiddleDrive x, int a, int b, int least, int most) {
        Check.due("least " + a + " " + b, x.least(a, b), least);
        Check.due("most " + a + " " + b, x.most(a, b), most);
    }

    private static void nothingIsKnownAtFirst() {
        RiddleDrive x = Check.drive("K16k03k04");
        bounds(x, 0, 15, 0, 16);
        bounds(x, 3, 4, 0, 2);
        bounds(x, 3, 3, 0, 1);
        bounds(x, 15, 15, 0, 1);
        Check.due("a key that nobody asked for is not known", x.known(3), -1);
    }

    private static void oneNumber() {
        RiddleDrive x = Check.drive("K16k03k04k05k06q0308");
        bounds(x, 3, 8, 4, 4);
        bounds(x, 3, 5, 1, 3);
        bounds(x, 4, 5, 0, 2);
        bounds(x, 3, 7, 3, 4);
        bounds(x, 2, 8, 4, 5);
        bounds(x, 0, 15, 4, 14);
        bounds(x, 9, 15, 0, 7);
        bounds(x, 6, 12, 1, 7);
    }

    private static void fewIsABound() {
        RiddleDrive x = Check.drive("K12s4k01q0005");
        Check.due("the answer is FEW", x.answer(0, 2), RiddleDrive.FEW);
        bounds(x, 0, 5, 0, 3);
        bounds(x, 0, 1, 0, 2);
        bounds(x, 0, 11, 0, 9);
        x = Check.drive("K12s1q0005");
        bounds(x, 0, 5, 0, 0);
        bounds(x, 0, 6, 0, 1);
        x = Check.drive("K12s0q0005");
        Check.due("with secrecy 0 the answer is 0", x.answer(0, 2), 0);
        bounds(x, 0, 5, 0, 0);
        x = Check.drive("K12s2k01k03q0005");
        Check.due("as many keys as the secrecy are told", x.answer(0, 2), 2);
        bounds(x, 0, 5, 2, 2);
    }

    private static void answersWorkTogether() {
        RiddleDrive x = Check.drive("K10k02k03k04k07q0104q0408");
        bounds(x, 2, 4, 2, 3);
        bounds(x, 4, 4, 0, 1);
        bounds(x, 1, 3, 2, 3);
        bounds(x, 5, 8, 1, 2);
        bounds(x, 1, 8, 4, 5);
        x.ask(5, 8);
        Check.due("FEW leaves one key at 5 to 8", x.most(5, 8), 1);
        bounds(x, 4, 4, 1, 1);
        bounds(x, 1, 3, 2, 2);
        bounds(x, 1, 8, 4, 4);
        x.forget(0);
        bounds(x, 1, 3, 0, 3);
        bounds(x, 4, 4, 1, 1);
    }

    private static void longChains() {
        // two keys each in 0-2, 2-4, 4-6 and 6-8 make five in all only if three of them are where two ranges meet
        RiddleDrive x = Check.drive("K09w3s0k00k02k04k06k08q0002q0204q0406q0608");
        bounds(x, 0, 8, 5, 7);
        Check.due("nothing is known before", x.about(9), 0);
        x.ask(0, 8);
        bounds(x, 0, 8, 5, 5);
        int[] due = {-1, -1, 1, 0, 1, 0, 1, -1, -1};
        for (int i = 0; i <= 8; i++) {
            Check.due("known " + i, x.known(i), due[i]);
        }
        bounds(x, 0, 1, 1, 1);
        bounds(x, 1, 7, 3, 5);
    }

    private static void widestDrive() {
        RiddleDrive x = Check.drive("K40s1k39");
        Check.due("ask all 40 places", x.ask(0, 39), 1);
        Check.due("ask all but the last", x.ask(0, 38), RiddleDrive.FEW);
        bounds(x, 39, 39, 1, 1);
        bounds(x, 0, 38, 0, 0);
        Check.due("known places", x.about(9), 40);
        Check.due("known(39)", x.known(39), 1);
        Check.due("known(0)", x.known(0), 0);
        Check.due("knownAt(39)", x.knownAt(39), 39);
        x = Check.drive("K40s0");
        for (int i = 0; i < 40; i++) {
            x.write(i, true);
        }
        Check.due("40 keys", x.ask(0, 39), 40);
        bounds(x, 0, 39, 40, 40);
        bounds(x, 17, 20, 4, 4);
    }

    private static void knownPlaces() {
        RiddleDrive x = Check.drive("K10w1s0k02k05");
        x.ask(2, 2);
        x.ask(4, 4);
        Check.due("a key", x.known(2), 1);
        Check.due("no key", x.known(4), 0);
        Check.due("not asked", x.known(3), -1);
        Check.due("not asked", x.known(5), -1);
        Check.due("known places", x.about(9), 2);
        x.write(2, false);
        Check.due("a write makes the answer worthless", x.known(2), -1);
        Check.due("but not the others", x.known(4), 0);
        x.set(1, 1);
        Check.due("another secrecy makes all worthless", x.known(4), -1);
    }

    private static void knownAtCounts() {
        RiddleDrive x = Check.drive("K10w1s0k02k05q0909q0202q0000q0506");
        int[] due = {0, 2, 9, -1, -1};
        for (int i = 0; i < due.length; i++) {
            Check.due("knownAt " + i, x.knownAt(i), due[i]);
        }
        Check.due("knownAt far too much", x.knownAt(Integer.MAX_VALUE), -1);
        Check.due("knownAt of nothing known", new RiddleDrive().knownAt(0), -1);
    }

    private static void refused() {
        RiddleDrive x = Check.drive("K12k03q0205");
        int[][] outside = {
            {-1, 3}, {0, 12}, {12, 12}, {12, 3}, {3, -1}, {Integer.MIN_VALUE, 0}, {0, Integer.MAX_VALUE}, {5, 40},
        };
        for (int[] r : outside) {
            Check.outside(x, "least " + r[0] + " " + r[1], () -> x.least(r[0], r[1]));
            Check.outside(x, "most " + r[0] + " " + r[1], () -> x.most(r[0], r[1]));
        }
        Check.argument(x, "least(5, 4)", () -> x.least(5, 4));
        Check.argument(x, "least(11, 0)", () -> x.least(11, 0));
        Check.argument(x, "most(5, 4)", () -> x.most(5, 4));
        Check.argument(x, "most(11, 0)", () -> x.most(11, 0));
        Check.outside(x, "known(-1)", () -> x.known(-1));
        Check.outside(x, "known(12)", () -> x.known(12));
        Check.outside(x, "known(greatest)", () -> x.known(Integer.MAX_VALUE));
        Check.argument(x, "knownAt(-1)", () -> x.knownAt(-1));
        Check.argument(x, "knownAt(smallest)", () -> x.knownAt(Integer.MIN_VALUE));
    }
}
