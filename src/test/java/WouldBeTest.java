/** Promises 19 to 22: costs, bestQuestion, worst, leastWorth. */
public final class WouldBeTest {
    private static final int[][] OUTSIDE = {
        {-1, 3}, {0, 12}, {12, 0}, {12, 12}, {3, -1}, {11, 12}, {Integer.MIN_VALUE, Integer.MAX_VALUE},
        {Integer.MAX_VALUE, Integer.MIN_VALUE}, {0, Integer.MAX_VALUE}, {Integer.MIN_VALUE, 0},
    };
    private static final int[][] BACKWARD = {{5, 4}, {11, 0}, {1, 0}, {11, 10}};

    public static void main(String[] args) {
        costs();
        bestQuestion();
        worst();
        leastWorth();
        Check.end("WouldBeTest", "Promise 19", "Promise 20", "Promise 21", "Promise 22");
    }

    // ---- promise 19

    private static void costs() {
        String s = "Promise 19";
        Check.sentence(s, "Tells what a question would cost. a: first place b: last place", WouldBeTest::costsOfRanges);
        Check.sentence(s, "Returns the cost; ", WouldBeTest::costsTell);
        Check.sentence(s, "NONE if the range is too narrow.", WouldBeTest::costsOfNarrow);
        Check.sentence(s, "Throws IndexOutOfBoundsException if there is no such place", WouldBeTest::costsOutside);
        Check.sentence(s, "Throws IllegalArgumentException if b is less than a", WouldBeTest::costsBackward);
    }

    private static void costsOfRanges() {
        RiddleDrive x = Check.drive("K40w1f2");
        int[][] due = {
            {0, 0, 2}, {39, 39, 2}, {0, 2, 2}, {0, 3, 3}, {36, 39, 3}, {37, 39, 2}, {1, 39, 11}, {0, 39, 12},
        };
        for (int[] d : due) {
            Check.due("costs " + d[0] + " " + d[1], x.costs(d[0], d[1]), d[2]);
            x.ask(d[0], d[1]);
            Check.due("paid " + d[0] + " " + d[1], x.answer(x.about(5) - 1, 3), d[2]);
        }
    }

    private static void costsTell() {
        RiddleDrive x = Check.drive("K40w3f0q0007");
        int[][] due = {{0, 2, 0}, {0, 3, 1}, {0, 6, 1}, {0, 7, 0}, {1, 8, 2}, {0, 39, 10}, {37, 39, 0}};
        for (int[] d : due) {
            Check.due("costs " + d[0] + " " + d[1], x.costs(d[0], d[1]), d[2]);
        }
        x.set(2, 9);
        Check.due("fee 9", x.costs(0, 39), 19);
        Check.due("there is an answer", x.costs(0, 7), 0);
        Check.due("only the first place is the same", x.costs(0, 8), 11);
        Check.due("only the last place is the same", x.costs(1, 7), 10);
        x.set(0, 8);
        Check.due("just wide enough, with an answer", x.costs(0, 7), 0);
        x.write(7, true);
        Check.due("the answer is forgotten", x.costs(0, 7), 11);
    }

    private static void costsOfNarrow() {
        for (int width = 1; width <= 8; width++) {
            for (int places = 1; places <= 9; places++) {
                RiddleDrive x = Check.drive("K16f9w" + width);
                int due = places < width ? -1 : 9 + places / 4;
                Check.due("width " + width + ", places " + places, x.costs(3, 2 + places), due);
            }
        }
        Check.due("though there is an answer", Check.drive("K16w2q0003w5").costs(0, 3), -1);
    }

    private static void costsOutside() {
        for (int[] r : OUTSIDE) {
            Check.outside(Check::busy, "costs " + r[0] + " " + r[1], x -> x.costs(r[0], r[1]));
        }
        Check.passes(Check::busy, "costs(0, 11)", x -> x.costs(0, 11));
    }

    private static void costsBackward() {
        for (int[] r : BACKWARD) {
            Check.argument(Check::busy, "costs " + r[0] + " " + r[1], x -> x.costs(r[0], r[1]));
            Check.argument(Check::crowded, "width 1, costs " + r[0] + " " + r[1], x -> x.costs(r[0], r[1]));
        }
        Check.passes(Check::busy, "costs(5, 5)", x -> x.costs(5, 5));
    }

    // ---- promise 20

    private static void bestQuestion() {
        String s = "Promise 20";
        Check.sentence(s, "Finds the question that is most open.", WouldBeTest::bestIsMostOpen);
        Check.sentence(s, "Returns 100 * (first place) + (last place) of the range, ", WouldBeTest::bestNumber);
        Check.sentence(s, "wide enough, ", WouldBeTest::bestIsWide);
        Check.sentence(s, "with the greatest difference of its most and its least; ", WouldBeTest::bestDifference);
        Check.sentence(s, "among several the one that costs least, ", WouldBeTest::bestIsCheap);
        Check.sentence(s, "then the smallest such number; ", WouldBeTest::bestIsSmallest);
        Check.sentence(s, "NONE if this difference is 0 for all.", WouldBeTest::bestOfNone);
    }

    private static void best(String text, int due) {
        Check.due("bestQuestion of " + text, Check.drive(text).bestQuestion(), due);
    }

    private static void bestIsMostOpen() {
        best("K08", 7);
        best("K16s0q0815", 7);
        // place 8 is known, all others are open
        best("K16s0w1q0808", 15);
        // what there was beyond the last place does not count
        RiddleDrive x = Check.drive("K40");
        Check.due("40 places", x.bestQuestion(), 39);
        x.resize(8);
        Check.due("8 places", x.bestQuestion(), 7);
        // eight places with keys that are known are not open
        best("K12s0k00k01k02k03k04k05k06k07q0007", 511);
    }

    private static void bestNumber() {
        best("K08", 7);
        best("K40", 39);
        best("K40s0w1q0029", 2939);
        best("K12w1s0q0000q1111", 10);
        best("K40s1w1q0038", 3739);
    }

    private static void bestIsWide() {
        best("K08w8", 7);
        best("K08s0w1q0006w3", 507);
        best("K08s0w1q0006w4", 107);
        best("K08s0w1q0006w8", 7);
        // 0 to 7 is not open, and nothing else is wide enough
        best("K08w1s0q0007w8", -1);
    }

    private static void bestDifference() {
        // 0 to 2 and 9 to 11 have no key, so 3 to 8 is open by 6, and 2 to 8 too, for the same price
        best("K12s1q0002q0911", 208);
        // FEW of 1 to 9 is three keys at most: 0 to 9 is open by 4, and 0 to 3 too, for less
        best("K10s4w3f1q0109", 3);
        // the greatest difference comes first, though 0 to 6 is free
        best("K08w1s3f1q0006", 507);
        // 0 to 7 has four keys, so 4 to 11 is open by 8, and any other range by less
        best("K12s0k00k01k02k03q0007", 411);
    }

    private static void bestIsCheap() {
        // all of 8 to 15 and some places before it: from 8 to 11 places cost the same
        best("K16s0q0007", 515);
        best("K16s0q0007f9", 515);
        // FEW leaves 0 to 3 keys in 0 to 7, which is free now; else 0 to 2 would come first
        best("K08s4f9q0007", 7);
        best("K08s4w1f1q0007", 7);
        best("K08s4w1f0q0007", 2);
        // 0 to 7 is open by 4, and so is 1 to 7, which costs one less; 4 to 7 costs as much, but its number is greater
        best("K08s4w3f0q0006k07", 107);
    }

    private static void bestIsSmallest() {
        // of two free ones the smallest number, whichever was asked for first
        best("K08w1s2f1q0207q0007", 7);
        best("K08w4s2f1q0007q0207", 7);
        best("K08w1s2f1q0007", 7);
        // all ranges are open by 1: with no fee up to three places cost nothing either
        best("K08w1s2f0q0007", 0);
        best("K08w2s2f0q0007", 1);
        best("K08w3s2f0q0007", 2);
    }

    private static void bestOfNone() {
        best("K08s0q0007", -1);
        best("K40s1q0039", -1);
        best("K08s0w1q0006", 507);
        best("K08s0w1q0006w1f0", 507);
        RiddleDrive x = Check.drive("K08s0w1");
        for (int i = 0; i < 8; i++) {
            Check.due("behind " + i + " known places", x.bestQuestion() == RiddleDrive.NONE, false);
            x.ask(i, i);
        }
        Check.due("behind 8 known places", x.bestQuestion(), RiddleDrive.NONE);
    }

    // ---- promise 21

    private static void worst() {
        String s = "Promise 21";
        Check.sentence(s, "Tells what would be known behind a question at the worst. a: first place b: last place",
            WouldBeTest::worstOfRanges);
        Check.sentence(s, "Returns the smallest number of places that would be known behind this question ",
            WouldBeTest::worstIsSmallest);
        Check.sentence(s, "(its answer being kept beside all others, though there be 12), ",
            WouldBeTest::worstBesideTwelve);
        Check.sentence(s, "over all answers that it could get with possible layouts; ",
            WouldBeTest::worstOfPossibleAnswers);
        Check.sentence(s, "NONE if the range is too narrow.", WouldBeTest::worstOfNarrow);
        Check.sentence(s, "Throws IndexOutOfBoundsException if there is no such place", WouldBeTest::worstOutside);
        Check.sentence(s, "Throws IllegalArgumentException if b is less than a", WouldBeTest::worstBackward);
    }

    private static void worst(RiddleDrive x, int a, int b, int due) {
        Check.due("worst " + a + " " + b, x.worst(a, b), due);
    }

    private static void worstOfRanges() {
        RiddleDrive x = Check.drive("K40s0w1");
        worst(x, 0, 0, 1);
        worst(x, 39, 39, 1);
        worst(x, 0, 1, 0);
        worst(x, 0, 39, 0);
        x.ask(0, 38);
        worst(x, 39, 39, 40);
        worst(x, 38, 39, 40);
        worst(x, 0, 39, 40);
        worst(x, 0, 38, 39);
    }

    private static void worstIsSmallest() {
        RiddleDrive x = Check.drive("K10s0w1");
        worst(x, 3, 3, 1);
        worst(x, 3, 4, 0);
        worst(x, 0, 9, 0);
        x.ask(0, 0);
        worst(x, 3, 3, 2);
        worst(x, 0, 0, 1);
        worst(x, 0, 1, 2);
        worst(x, 0, 2, 1);
        x.ask(1, 9);
        worst(x, 0, 9, 10);
        // one key in 3 to 4
        x = Check.drive("K10w1s0k03q0304");
        worst(x, 3, 3, 2);
        worst(x, 3, 5, 1);
        worst(x, 2, 5, 0);
        worst(x, 5, 6, 0);
    }

    private static void worstBesideTwelve() {
        RiddleDrive x = Check.drive("K16w1s0f0");
        for (int i = 0; i < 12; i++) {
            x.ask(i, i);
        }
        worst(x, 15, 15, 13);
        worst(x, 0, 15, 12);
        worst(x, 14, 15, 12);
        worst(x, 11, 12, 13);
        worst(x, 0, 0, 12);
        x.ask(15, 15);
        Check.due("but asked, the oldest one is forgotten", x.about(9), 12);
    }

    private static void worstOfPossibleAnswers() {
        RiddleDrive x = Check.drive("K10w1s2");
        worst(x, 3, 3, 0);
        x = Check.drive("K10w1s1");
        worst(x, 3, 3, 1);
        worst(x, 3, 4, 0);
        x = Check.drive("K12w1s2k00k01k02q0002");
        worst(x, 0, 3, 4);
        worst(x, 0, 2, 3);
        // one key at least is known in 2 to 3, so FEW tells that there is just one
        worst(x, 2, 3, 4);
        // FEW can not come where two keys are known
        worst(x, 1, 3, 4);
        // with secrecy 4, FEW says nothing about three places, and no number can come
        x = Check.drive("K10w1s4");
        worst(x, 0, 2, 0);
        // FEW says nothing, but four keys of four places make all four known
        worst(x, 0, 3, 0);
        // three of four are known to have keys: both answers tell the fourth
        x = Check.drive("K10w1s1k00k01k02q0002s1q0002");
        worst(x, 0, 3, 4);
        x = Check.drive("K10w1s2k00k01k02q0002");
        worst(x, 0, 3, 4);
        // FEW of secrecy 1 is no key, FEW of secrecy 2 may be one
        x = Check.drive("K10w1s1q0002");
        worst(x, 0, 3, 4);
        x = Check.drive("K10w1s2q0002");
        worst(x, 0, 3, 0);
    }

    private static void worstOfNarrow() {
        for (int width = 1; width <= 8; width++) {
            for (int places = 1; places <= 9; places++) {
                RiddleDrive x = Check.drive("K16s0w" + width);
                int due = places < width ? -1 : places == 1 ? 1 : 0;
                Check.due("width " + width + ", places " + places, x.worst(3, 2 + places), due);
            }
        }
        Check.due("though there is an answer", Check.drive("K16w2q0003w5").worst(0, 3), -1);
    }

    private static void worstOutside() {
        for (int[] r : OUTSIDE) {
            Check.outside(Check::busy, "worst " + r[0] + " " + r[1], x -> x.worst(r[0], r[1]));
        }
        Check.passes(Check::busy, "worst(0, 11)", x -> x.worst(0, 11));
    }

    private static void worstBackward() {
        for (int[] r : BACKWARD) {
            Check.argument(Check::busy, "worst " + r[0] + " " + r[1], x -> x.worst(r[0], r[1]));
            Check.argument(Check::crowded, "width 1, worst " + r[0] + " " + r[1], x -> x.worst(r[0], r[1]));
        }
        Check.passes(Check::busy, "worst(5, 5)", x -> x.worst(5, 5));
    }

    // ---- promise 22

    private static void leastWorth() {
        String s = "Promise 22";
        Check.sentence(s, "Finds the answer that is worth least.", WouldBeTest::leastWorthIsFound);
        Check.sentence(s, "Returns the number of the answer without which the most places would still be known, ",
            WouldBeTest::leastWorthNumber);
        Check.sentence(s, "among several the oldest one; ", WouldBeTest::leastWorthOldest);
        Check.sentence(s, "NONE if none is kept.", WouldBeTest::leastWorthOfNone);
    }

    private static void leastWorth(String text, int due) {
        Check.due("leastWorth of " + text, Check.drive(text).leastWorth(), due);
    }

    private static void leastWorthIsFound() {
        leastWorth("K16s0w1q0108q0000q0910", 1);
        leastWorth("K16s0w1q0001q0209q1010q1112", 2);
        leastWorth("K16s0w1q0000q0108q0910q1111", 0);
    }

    private static void leastWorthNumber() {
        leastWorth("K16q0003", 0);
        // the first two make 0 to 5 known together, the third one place alone
        leastWorth("K16s0w1k03k04k05q0305q0004q0606", 2);
        // without the second one three places are known, without the first one none
        leastWorth("K16s0w1k03k04k05q0305q0004", 1);
        RiddleDrive x = Check.drive("K40s0w1");
        for (int i = 0; i < 11; i++) {
            x.ask(2 * i, 2 * i + 1);
        }
        x.ask(39, 39);
        Check.due("the last of 12", x.leastWorth(), 11);
    }

    private static void leastWorthOldest() {
        leastWorth("K16q0003q0407", 0);
        leastWorth("K16s0w1q0000q0101q0202", 0);
        leastWorth("K16s0w1q0001q0202q0303", 1);
        leastWorth("K16s0w1q0005q0003q0205", 0);
        leastWorth("K16s0w1q0005q0808q0003", 2);
        Check.due("of 12 equal ones", QuestionTest.full().leastWorth(), 0);
    }

    private static void leastWorthOfNone() {
        leastWorth("K16", -1);
        RiddleDrive x = Check.drive("K16q0003");
        x.forget(0);
        Check.due("behind forget", x.leastWorth(), RiddleDrive.NONE);
    }
}
