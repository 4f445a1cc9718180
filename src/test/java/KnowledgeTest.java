/** What is known, and promises 9 to 12: least, most, known, knownAt. */
public final class KnowledgeTest {
    private static final int[][] OUTSIDE = {
        {-1, 3}, {0, 12}, {12, 12}, {12, 3}, {3, -1}, {-1, -1}, {Integer.MIN_VALUE, 0}, {0, Integer.MAX_VALUE},
        {Integer.MIN_VALUE, Integer.MAX_VALUE}, {Integer.MAX_VALUE, Integer.MIN_VALUE}, {5, 40},
    };
    private static final int[][] BACKWARD = {{5, 4}, {11, 0}, {1, 0}, {11, 10}};

    public static void main(String[] args) {
        whatIsKnown();
        leastAndMost();
        knownPlaces();
        Check.end("KnowledgeTest", "WHAT IS KNOWN", "Promise 9", "Promise 10", "Promise 11", "Promise 12");
    }

    private static void bounds(RiddleDrive x, int a, int b, int least, int most) {
        Check.due("least " + a + " " + b, x.least(a, b), least);
        Check.due("most " + a + " " + b, x.most(a, b), most);
    }

    // ---- what is known

    private static void whatIsKnown() {
        String s = "WHAT IS KNOWN";
        Check.sentence(s, "A layout tells for each place whether there is a key. "
            + "It is possible if it fits all answers that are kept: ", KnowledgeTest::allAnswersTogether);
        Check.sentence(s, "with a number, that its range has just so many keys; ", KnowledgeTest::numbers);
        Check.sentence(s, "with FEW, that its range has fewer keys than the secrecy.", KnowledgeTest::few);
        Check.sentence(s, "(The layout that there is is always possible.)", KnowledgeTest::thisLayoutIsPossible);
        Check.sentence(s, "The least and the most of a range are the smallest and the greatest number of keys that it "
            + "has in possible layouts.", KnowledgeTest::smallestAndGreatest);
        Check.sentence(s, "A place is known if its least is its most: it surely has a key, or surely has none.",
            KnowledgeTest::sureOrNot);
    }

    private static void allAnswersTogether() {
        RiddleDrive x = Check.drive("K10k02k03k04k07q0104q0408");
        bounds(x, 2, 4, 2, 3);
        bounds(x, 4, 4, 0, 1);
        bounds(x, 1, 3, 2, 3);
        bounds(x, 5, 8, 1, 2);
        bounds(x, 1, 8, 4, 5);
        x.ask(5, 8);
        Check.due("FEW leaves one key at 5 to 8", x.most(5, 8), 1);
        bounds(x, 4, 4, 1, 1);
        bounds(x, 1, 3, 2, 2);
        bounds(x, 1, 8, 4, 4);
        x.forget(0);
        bounds(x, 1, 3, 0, 3);
        bounds(x, 4, 4, 1, 1);
    }

    private static void numbers() {
        RiddleDrive x = Check.drive("K16k03k04k05k06q0308");
        bounds(x, 3, 8, 4, 4);
        bounds(x, 3, 5, 1, 3);
        bounds(x, 4, 5, 0, 2);
        bounds(x, 3, 7, 3, 4);
        bounds(x, 2, 8, 4, 5);
        bounds(x, 0, 15, 4, 14);
        bounds(x, 9, 15, 0, 7);
        bounds(x, 6, 12, 1, 7);
        bounds(Check.drive("K12s2k01k03q0005"), 0, 5, 2, 2);
        bounds(Check.drive("K12s0q0005"), 0, 5, 0, 0);
    }

    private static void few() {
        for (int secrecy = 1; secrecy <= 4; secrecy++) {
            RiddleDrive x = Check.drive("K12s" + secrecy + "q0005");
            Check.due("the answer", x.answer(0, 2), RiddleDrive.FEW);
            bounds(x, 0, 5, 0, secrecy - 1);
            bounds(x, 0, 0, 0, Math.min(1, secrecy - 1));
            bounds(x, 0, 11, 0, secrecy + 5);
        }
        bounds(Check.drive("K12w1s4q0001"), 0, 1, 0, 2);
    }

    /** Random drives of all sizes: what there is lies within the bounds, and no place is known wrongly. */
    private static void thisLayoutIsPossible() {
        for (int run = 0; run < 200; run++) {
            RiddleDrive x = random(run, 8 + run % 33);
            int places = x.about(0);
            int wrong = 0;
            for (int i = 0; i < places; i++) {
                wrong += x.known(i) == (x.has(i) ? 0 : 1) ? 1 : 0;
            }
            Check.due("places known wrongly in run " + run, wrong, 0);
            for (int a = 0; a < places; a += 3) {
                int keys = 0;
                int b = Math.min(places - 1, a + run % 9);
                for (int i = a; i <= b; i++) {
                    keys += x.has(i) ? 1 : 0;
                }
                Check.due("run " + run + ", " + a + " to " + b, x.least(a, b) <= keys && keys <= x.most(a, b), true);
            }
        }
    }

    /** Keys and up to 13 questions of all widths, by the number of the run alone. */
    private static RiddleDrive random(int run, int places) {
        RiddleDrive x = Check.drive("K" + places / 10 + places % 10 + "w1s" + run % 5);
        long seed = run;
        for (int n = 0; n < places / 2; n++) {
            seed = seed * 6364136223846793005L + 1442695040888963407L;
            x.write((int) ((seed >>> 33) % places), true);
        }
        for (int n = 0; n < 1 + run % 13; n++) {
            seed = seed * 6364136223846793005L + 1442695040888963407L;
            int a = (int) ((seed >>> 33) % places);
            x.ask(a, a + (int) ((seed >>> 20) % (places - a)));
        }
        return x;
    }

    /** On 8 places all 256 layouts are looked at. */
    private static void smallestAndGreatest() {
        for (int run = 0; run < 120; run++) {
            RiddleDrive x = random(run, 8);
            int secrecy = x.about(3);
            int[][] answers = new int[x.about(5)][];
            for (int i = 0; i < answers.length; i++) {
                answers[i] = new int[] {x.answer(i, 0), x.answer(i, 1), x.answer(i, 2)};
            }
            for (int a = 0; a < 8; a++) {
                for (int b = a; b < 8; b++) {
                    int least = 9;
                    int most = -1;
                    for (int layout = 0; layout < 256; layout++) {
                        if (fits(layout, answers, secrecy)) {
                            int keys = keysIn(layout, a, b);
                            least = Math.min(least, keys);
                            most = Math.max(most, keys);
                        }
                    }
                    bounds(x, a, b, least, most);
                }
            }
        }
    }

    private static boolean fits(int layout, int[][] answers, int secrecy) {
        for (int[] answer : answers) {
            int keys = keysIn(layout, answer[0], answer[1]);
            if (answer[2] == RiddleDrive.FEW ? keys >= secrecy : keys != answer[2]) {
                return false;
            }
        }
        return true;
    }

    private static int keysIn(int layout, int a, int b) {
        int keys = 0;
        for (int i = a; i <= b; i++) {
            keys += layout >> i & 1;
        }
        return keys;
    }

    private static void sureOrNot() {
        // two keys each in 0-2, 2-4, 4-6 and 6-8 make five in all only if three of them are where two ranges meet
        RiddleDrive x = Check.drive("K09w3s0k00k02k04k06k08q0002q0204q0406q0608");
        bounds(x, 0, 8, 5, 7);
        Check.due("known places before", x.about(9), 0);
        x.ask(0, 8);
        bounds(x, 0, 8, 5, 5);
        int[] due = {-1, -1, 1, 0, 1, 0, 1, -1, -1};
        for (int i = 0; i <= 8; i++) {
            Check.due("known " + i, x.known(i), due[i]);
            bounds(x, i, i, Math.max(0, due[i]), due[i] == 0 ? 0 : 1);
        }
        bounds(x, 0, 1, 1, 1);
        bounds(x, 1, 7, 3, 5);
        Check.due("known places behind", x.about(9), 5);
    }

    // ---- promises 9 and 10

    private static void leastAndMost() {
        String s = "Promise 9";
        Check.sentence(s, "Tells the least of a range. a: first place b: last place", KnowledgeTest::leastOfRanges);
        Check.sentence(s, "Returns the smallest number of keys that it has in possible layouts.",
            KnowledgeTest::leastIsSmallest);
        Check.sentence(s, "Throws IndexOutOfBoundsException if there is no such place", KnowledgeTest::leastOutside);
        Check.sentence(s, "Throws IllegalArgumentException if b is less than a", KnowledgeTest::leastBackward);
        s = "Promise 10";
        Check.sentence(s, "Tells the most of a range. a: first place b: last place", KnowledgeTest::mostOfRanges);
        Check.sentence(s, "Returns the greatest number of keys that it has in possible layouts.",
            KnowledgeTest::mostIsGreatest);
        Check.sentence(s, "Throws IndexOutOfBoundsException if there is no such place", KnowledgeTest::mostOutside);
        Check.sentence(s, "Throws IllegalArgumentException if b is less than a", KnowledgeTest::mostBackward);
    }

    private static RiddleDrive wide() {
        RiddleDrive x = Check.drive("K40w1s0k00k39");
        x.ask(0, 39);
        x.ask(1, 39);
        return x;
    }

    private static void leastOfRanges() {
        Check.due("all places", wide().least(0, 39), 2);
        Check.due("the first place", wide().least(0, 0), 1);
        Check.due("the last place", wide().least(39, 39), 0);
        Check.due("all but the first place", wide().least(1, 39), 1);
        Check.due("a range that is narrower than the width", Check.drive("K16k03k04q0204w8").least(3, 4), 1);
    }

    private static void leastIsSmallest() {
        RiddleDrive x = new RiddleDrive();
        x.write(3, true);
        Check.due("nothing was asked", x.least(0, 15), 0);
        x.write(4, true);
        x.ask(3, 5);
        Check.due("the range", x.least(3, 5), 2);
        Check.due("two of its places", x.least(3, 4), 1);
        Check.due("one of its places", x.least(3, 3), 0);
        Check.due("more places", x.least(0, 15), 2);
        x.write(5, true);
        Check.due("the answer is forgotten", x.least(3, 5), 0);
        x.ask(3, 5);
        Check.due("three of three places", x.least(3, 5), 3);
        Check.due("a part of them", x.least(4, 5), 2);
    }

    private static void leastOutside() {
        for (int[] r : OUTSIDE) {
            Check.outside(Check::busy, "least " + r[0] + " " + r[1], x -> x.least(r[0], r[1]));
        }
        Check.outside(KnowledgeTest::wide, "least(0, 40) of 40", x -> x.least(0, 40));
        Check.passes(KnowledgeTest::wide, "least(0, 39) of 40", x -> x.least(0, 39));
    }

    private static void leastBackward() {
        for (int[] r : BACKWARD) {
            Check.argument(Check::busy, "least " + r[0] + " " + r[1], x -> x.least(r[0], r[1]));
        }
        Check.passes(Check::busy, "least(5, 5)", x -> x.least(5, 5));
    }

    private static void mostOfRanges() {
        Check.due("all places", wide().most(0, 39), 2);
        Check.due("the first place", wide().most(0, 0), 1);
        Check.due("the last place", wide().most(39, 39), 1);
        Check.due("all but the last place", wide().most(0, 38), 2);
        Check.due("all but the first place", wide().most(1, 39), 1);
        Check.due("a range that is narrower than the width", Check.drive("K16k03k04q0204w8").most(2, 3), 2);
    }

    private static void mostIsGreatest() {
        RiddleDrive x = new RiddleDrive();
        Check.due("nothing was asked", x.most(0, 15), 16);
        Check.due("nothing was asked", x.most(4, 4), 1);
        x.ask(3, 7);
        Check.due("FEW of secrecy 2", x.most(3, 7), 1);
        Check.due("a part of it", x.most(4, 5), 1);
        Check.due("more places", x.most(0, 15), 12);
        x.set(1, 1);
        Check.due("the answer is forgotten", x.most(3, 7), 5);
        x.ask(3, 7);
        Check.due("FEW of secrecy 1", x.most(3, 7), 0);
        Check.due("a place more", x.most(3, 8), 1);
    }

    private static void mostOutside() {
        for (int[] r : OUTSIDE) {
            Check.outside(Check::busy, "most " + r[0] + " " + r[1], x -> x.most(r[0], r[1]));
        }
        Check.outside(KnowledgeTest::wide, "most(0, 40) of 40", x -> x.most(0, 40));
        Check.passes(KnowledgeTest::wide, "most(0, 39) of 40", x -> x.most(0, 39));
    }

    private static void mostBackward() {
        for (int[] r : BACKWARD) {
            Check.argument(Check::busy, "most " + r[0] + " " + r[1], x -> x.most(r[0], r[1]));
        }
        Check.passes(Check::busy, "most(5, 5)", x -> x.most(5, 5));
    }

    // ---- promises 11 and 12

    private static void knownPlaces() {
        String s = "Promise 11";
        Check.sentence(s, "Tells what is known of a place. i: place", KnowledgeTest::knownOfPlaces);
        Check.sentence(s, "Returns 1 if it surely has a key, ", KnowledgeTest::knownKey);
        Check.sentence(s, "0 if it surely has none; ", KnowledgeTest::knownGap);
        Check.sentence(s, "NONE if it is not known.", KnowledgeTest::notKnown);
        Check.sentence(s, "Throws IndexOutOfBoundsException if there is no such place", KnowledgeTest::knownOutside);
        s = "Promise 12";
        Check.sentence(s, "Finds places that are known. i: 0 or more", KnowledgeTest::knownAtAny);
        Check.sentence(s, "Returns the known place with this number, from 0, ascending; ", KnowledgeTest::knownAtOrder);
        Check.sentence(s, "NONE if there are not so many.", KnowledgeTest::knownAtTooMuch);
        Check.sentence(s, "Throws IllegalArgumentException if i is negative", KnowledgeTest::knownAtRefuses);
    }

    private static void knownOfPlaces() {
        RiddleDrive x = Check.drive("K40w1s1k39q0000q3939");
        Check.due("the first place", x.known(0), 0);
        Check.due("the last place", x.known(39), 1);
        Check.due("a place between", x.known(20), -1);
    }

    private static void knownKey() {
        RiddleDrive x = Check.drive("K10w1s1k02k03k05q0202");
        Check.due("asked for alone", x.known(2), 1);
        x.ask(2, 3);
        Check.due("worked out of two answers", x.known(3), 1);
        x.ask(4, 5);
        Check.due("one of two places", x.known(5), -1);
        x.ask(4, 4);
        Check.due("the other of two places", x.known(5), 1);
        x.write(2, false);
        Check.due("the answers are forgotten", x.known(2), -1);
    }

    private static void knownGap() {
        RiddleDrive x = Check.drive("K10w1s0k02q0404");
        Check.due("asked for alone", x.known(4), 0);
        x.ask(2, 3);
        x.ask(2, 2);
        Check.due("worked out of two answers", x.known(3), 0);
        RiddleDrive y = Check.drive("K10w1s1q0009");
        Check.due("FEW of secrecy 1", y.known(9), 0);
        RiddleDrive z = Check.drive("K10w1s2k03k04q0007q0304");
        Check.due("two keys elsewhere", z.known(0), 0);
    }

    private static void notKnown() {
        RiddleDrive x = Check.drive("K10w1s2k02q0202");
        Check.due("FEW of secrecy 2", x.known(2), -1);
        Check.due("never asked for", x.known(3), -1);
        Check.due("though the drive itself knows", x.has(2), true);
        x.set(1, 0);
        x.ask(2, 2);
        Check.due("known", x.known(2), 1);
        x.forget(0);
        Check.due("forgotten", x.known(2), -1);
    }

    private static void knownOutside() {
        for (int i : new int[] {-1, 12, 13, 40, 64, Integer.MIN_VALUE, Integer.MAX_VALUE}) {
            Check.outside(Check::busy, "known " + i, x -> x.known(i));
        }
        Check.outside(KnowledgeTest::wide, "known(40) of 40", x -> x.known(40));
        Check.passes(KnowledgeTest::wide, "known(39) of 40", x -> x.known(39));
    }

    private static void knownAtAny() {
        RiddleDrive x = Check.drive("K40s1q0039");
        for (int i = 0; i < 40; i++) {
            Check.due("knownAt " + i, x.knownAt(i), i);
        }
        Check.due("knownAt 40", x.knownAt(40), -1);
        Check.due("knownAt far too much", x.knownAt(Integer.MAX_VALUE), -1);
    }

    private static void knownAtOrder() {
        RiddleDrive x = Check.drive("K10w1s0k02k05q0909q0202q0000q0506");
        Check.due("the first one", x.knownAt(0), 0);
        Check.due("the second one", x.knownAt(1), 2);
        Check.due("the third one", x.knownAt(2), 9);
    }

    private static void knownAtTooMuch() {
        Check.due("none of none", new RiddleDrive().knownAt(0), -1);
        RiddleDrive x = Check.drive("K10w1s0k02k05q0909q0202");
        Check.due("the second of two", x.knownAt(1), 9);
        Check.due("the third of two", x.knownAt(2), -1);
    }

    private static void knownAtRefuses() {
        for (int i : new int[] {-1, -2, Integer.MIN_VALUE}) {
            Check.argument(Check::busy, "knownAt " + i, x -> x.knownAt(i));
        }
        Check.passes(Check::busy, "knownAt(0)", x -> x.knownAt(0));
    }
}
