/** Promises 19 to 22: costs, bestQuestion, worst, leastWorth. */
public final class WouldBeTest {
    public static void main(String[] args) {
        costsTell();
        costsRefuse();
        bestQuestionIsMostOpen();
        bestQuestionIsCheap();
        bestQuestionOfNone();
        worstOverAllAnswers();
        worstOfFew();
        worstBesideTwelve();
        worstRefuses();
        leastWorthIsFound();
        leastWorthOfEqualOnes();
        theyChangeNothing();
        Check.end("WouldBeTest");
    }

    private static void costsTell() {
        RiddleDrive x = Check.drive("K40w3f0q0007");
        int[][] due = {{0, 2, 0}, {0, 3, 1}, {0, 6, 1}, {0, 7, 0}, {1, 8, 2}, {0, 39, 10}, {37, 39, 0}, {0, 1, -1},
            {39, 39, -1}};
        for (int[] d : due) {
            Check.due("costs " + d[0] + " " + d[1], x.costs(d[0], d[1]), d[2]);
        }
        x.set(2, 9);
        Check.due("fee 9", x.costs(0, 39), 19);
        Check.due("there is an answer", x.costs(0, 7), 0);
        Check.due("a question with this first place alone", x.costs(0, 8), 11);
        x.set(0, 8);
        Check.due("wide enough", x.costs(0, 7), 0);
        Check.due("too narrow", x.costs(1, 7), -1);
        RiddleDrive y = Check.drive("K16w2q0003w5");
        Check.due("too narrow, though there is an answer", y.costs(0, 3), -1);
        y.write(0, true);
        y.set(0, 1);
        Check.due("the answer is forgotten", y.costs(0, 3), 2);
    }

    private static void costsRefuse() {
        RiddleDrive x = Check.drive("K12k03q0205");
        Check.outside(x, "costs(-1, 3)", () -> x.costs(-1, 3));
        Check.outside(x, "costs(0, 12)", () -> x.costs(0, 12));
        Check.outside(x, "costs(12, 0)", () -> x.costs(12, 0));
        Check.argument(x, "costs(5, 4)", () -> x.costs(5, 4));
        Check.argument(x, "costs(11, 0)", () -> x.costs(11, 0));
    }

    private static void best(String text, int due) {
        Check.due("bestQuestion of " + text, Check.drive(text).bestQuestion(), due);
    }

    private static void bestQuestionIsMostOpen() {
        best("K08", 7);
        best("K40", 39);
        best("K08w8", 7);
        best("K16s0q0815", 7);
        // one place more of 0 to 7 is open than of 9 to 15
        best("K16s0w1q0808", 15);
        best("K16s0w1q0815", 7);
        // a range of 8 to 11 places costs the same, so the smallest number that ends with 15 is 515
        best("K16s0q0007", 515);
        best("K12s1q0002q0911", 208);
        best("K12w1s0q0000q1111", 10);
        // eight places with keys that are known are not open
        best("K12s0k00k01k02k03k04k05k06k07q0007", 511);
        // place 0 and three keys of 1 to 9
        best("K10s4w3f1q0109", 3);
    }

    private static void bestQuestionIsCheap() {
        best("K16s0q0007f9", 515);
        // FEW leaves 0 to 3 keys in 0 to 7, and this range is free now; else 0 to 2 would come first
        best("K08s4f9q0007", 7);
        best("K08s4w1f1q0007", 7);
        // 0 to 7 is open by 4, and so is 1 to 7, which costs one less; 4 to 7 costs as much, but its number is greater
        best("K08s4w3f0q0006k07", 107);
        // the greatest difference comes first, though 0 to 6 is free
        best("K08w1s3f1q0006", 507);
        // of two free ones the smallest number, whichever was asked for first
        best("K08w1s2f1q0207q0007", 7);
        best("K08w4s2f1q0007q0207", 7);
        // all ranges are open by 1: with no fee the first place costs nothing either
        best("K08w1s2f0q0007", 0);
        best("K08w1s2f1q0007", 7);
    }

    private static void bestQuestionOfNone() {
        best("K08s0q0007", -1);
        best("K40s1q0039", -1);
        best("K08s0w1q0006", 507);
        best("K08s0w1q0006w8", 7);
        best("K08s0w1q0006w1f0", 507);
    }

    private static void worst(RiddleDrive x, int a, int b, int due) {
        Check.due("worst " + a + " " + b, x.worst(a, b), due);
    }

    private static void worstOverAllAnswers() {
        RiddleDrive x = Check.drive("K10s0w1");
        worst(x, 3, 3, 1);
        worst(x, 3, 4, 0);
        worst(x, 0, 9, 0);
        x.ask(0, 0);
        worst(x, 3, 3, 2);
        worst(x, 0, 0, 1);
        worst(x, 0, 1, 2);
        worst(x, 0, 2, 1);
        x.ask(1, 9);
        worst(x, 0, 9, 10);
        x = Check.drive("K10w1s0k03q0304");
        worst(x, 3, 3, 2);
        worst(x, 3, 5, 1);
        worst(x, 2, 5, 0);
        worst(x, 5, 6, 0);
    }

    private static void worstOfFew() {
        RiddleDrive x = Check.drive("K10w1s2");
        worst(x, 3, 3, 0);
        x = Check.drive("K10w1s1");
        worst(x, 3, 3, 1);
        worst(x, 3, 4, 0);
        x = Check.drive("K12w1s2k00k01k02q0002");
        worst(x, 0, 3, 4);
        worst(x, 0, 2, 3);
        // one key at least is known in 2 to 3, so FEW tells that there is just one
        worst(x, 2, 3, 4);
        // FEW can not come where two keys are known
        worst(x, 1, 3, 4);
    }

    private static void worstBesideTwelve() {
        RiddleDrive x = Check.drive("K16w1s0f0");
        for (int i = 0; i < 12; i++) {
            x.ask(i, i);
        }
        worst(x, 15, 15, 13);
        worst(x, 0, 15, 12);
        worst(x, 14, 15, 12);
        x.ask(15, 15);
        Check.due("asked, the oldest one is forgotten", x.about(9), 12);
    }

    private static void worstRefuses() {
        RiddleDrive x = Check.drive("K12k03q0205");
        worst(x, 2, 3, -1);
        worst(x, 0, 0, -1);
        Check.outside(x, "worst(-1, 3)", () -> x.worst(-1, 3));
        Check.outside(x, "worst(0, 12)", () -> x.worst(0, 12));
        Check.outside(x, "worst(12, 0)", () -> x.worst(12, 0));
        Check.argument(x, "worst(5, 4)", () -> x.worst(5, 4));
        Check.argument(x, "worst(11, 0)", () -> x.worst(11, 0));
    }

    private static void leastWorth(String text, int due) {
        Check.due("leastWorth of " + text, Check.drive(text).leastWorth(), due);
    }

    private static void leastWorthIsFound() {
        leastWorth("K16", -1);
        leastWorth("K16q0003", 0);
        leastWorth("K16s0w1q0000q0108q0910q1111", 0);
        leastWorth("K16s0w1q0001q0209q1010q1112", 2);
        leastWorth("K16s0w1q0108q0000q0910", 1);
        // the first two make 0 to 5 known together, the third one place alone
        leastWorth("K16s0w1k03k04k05q0305q0004q0606", 2);
        // without the second one four places are known, without the first one none
        leastWorth("K16s0w1k03k04k05q0305q0004", 1);
    }

    private static void leastWorthOfEqualOnes() {
        leastWorth("K16q0003q0407", 0);
        leastWorth("K16s0w1q0000q0101q0202", 0);
        leastWorth("K16s0w1q0001q0202q0303", 1);
        leastWorth("K16s0w1q0005q0003q0205", 0);
        leastWorth("K16s0w1q0005q0808q0003", 2);
    }

    private static void theyChangeNothing() {
        RiddleDrive x = Check.drive("K12w1s2k03k04q0305q0004q0411");
        x.write(9, true);
        String before = Check.look(x);
        x.costs(0, 5);
        x.bestQuestion();
        x.worst(0, 5);
        x.leastWorth();
        x.runScript(3, 106110210049100L);
        x.simulate(7, 30);
        Check.same("what would be changes nothing", Check.look(x), before);
        Check.due("and is no action", x.undo(), 0);
    }
}
