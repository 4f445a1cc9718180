/** Questions and answers: what holds for ask, for the text and for scripts. */
public final class QuestionTest {
    public static void main(String[] args) {
        String s = "QUESTIONS AND ANSWERS";
        Check.sentence(s, "A question asks how many keys there are in a range of at least as many places as the width.",
            QuestionTest::wideEnough);
        Check.sentence(s, "If there are fewer keys than the secrecy, the answer is FEW, ", QuestionTest::fewKeys);
        Check.sentence(s, "otherwise the number of keys.", QuestionTest::manyKeys);
        Check.sentence(s, "A question costs the fee and 1 for each 4 whole places of its range; ", QuestionTest::price);
        Check.sentence(s, "if there is an answer about just this range already, it costs nothing.",
            QuestionTest::freeQuestion);
        Check.sentence(s, "The asker keeps at most 12 answers, ", QuestionTest::twelve);
        Check.sentence(s, "in the order in which they were given; ", QuestionTest::order);
        Check.sentence(s, "a new one about a range about which there is one takes its place (in the order, too), ",
            QuestionTest::takesThePlace);
        Check.sentence(s, "any other comes behind all; ", QuestionTest::comesBehind);
        Check.sentence(s, "when there are 12, the oldest one is forgotten first.", QuestionTest::oldestIsForgotten);
        Check.sentence(s, "When a key is written to a place or removed from it, all answers about ranges with this "
            + "place are forgotten.", QuestionTest::keysForget);
        Check.sentence(s, "When the secrecy changes, all answers are forgotten.", QuestionTest::secrecyForgets);
        Check.end("QuestionTest", s);
    }

    /** A drive of 40 places with 12 answers, about 0 to 1, 1 to 2 and so on to 11 to 12. */
    static RiddleDrive full() {
        RiddleDrive x = Check.drive("K40w1f0");
        for (int i = 0; i < 12; i++) {
            x.ask(i, i + 1);
        }
        return x;
    }

    private static void wideEnough() {
        for (int width = 1; width <= 8; width++) {
            String text = "K40k00k01k38k39w" + width;
            int last = width - 1;
            RiddleDrive x = Check.drive(text);
            Check.due("the first places, width " + width, x.ask(0, last), width == 1 ? RiddleDrive.FEW : 2);
            Check.due("the last places, width " + width, x.ask(39 - last, 39), width == 1 ? RiddleDrive.FEW : 2);
            if (width > 1) {
                Check.state(() -> Check.drive(text), "one place less, width " + width, y -> y.ask(0, last - 1));
                Check.state(() -> Check.drive(text), "one place less, width " + width, y -> y.ask(40 - last, 39));
            }
        }
        Check.due("8 of 8 places", Check.drive("K08w8k00k07").ask(0, 7), 2);
    }

    private static void fewKeys() {
        for (int secrecy = 1; secrecy <= 4; secrecy++) {
            for (int keys = 0; keys < secrecy; keys++) {
                Check.due(keys + " keys, secrecy " + secrecy, withKeys(keys, secrecy).ask(0, 7), RiddleDrive.FEW);
            }
        }
    }

    private static void manyKeys() {
        for (int secrecy = 0; secrecy <= 4; secrecy++) {
            for (int keys = secrecy; keys <= 8; keys++) {
                Check.due(keys + " keys, secrecy " + secrecy, withKeys(keys, secrecy).ask(0, 7), keys);
            }
        }
        RiddleDrive x = Check.drive("K40");
        for (int i = 0; i < 40; i++) {
            x.write(i, true);
        }
        Check.due("40 keys", x.ask(0, 39), 40);
        Check.due("39 keys", x.ask(1, 39), 39);
    }

    private static RiddleDrive withKeys(int keys, int secrecy) {
        RiddleDrive x = Check.drive("K08s" + secrecy);
        for (int i = 0; i < keys; i++) {
            x.write(7 - i, true);
        }
        return x;
    }

    private static void price() {
        int[][] due = {{1, 0}, {3, 0}, {4, 1}, {5, 1}, {7, 1}, {8, 2}, {11, 2}, {12, 3}, {39, 9}, {40, 10}};
        for (int fee : new int[] {0, 1, 9}) {
            for (int[] d : due) {
                RiddleDrive x = Check.drive("K40w1f" + fee);
                x.ask(40 - d[0], 39);
                Check.due("fee " + fee + ", " + d[0] + " places", x.about(6), fee + d[1]);
            }
        }
    }

    private static void freeQuestion() {
        RiddleDrive x = Check.drive("K16w1f9q0007");
        Check.due("the first time", x.about(6), 11);
        x.ask(0, 7);
        Check.due("the second time", x.about(6), 11);
        x.ask(0, 6);
        Check.due("another last place", x.about(6), 21);
        x.ask(1, 7);
        Check.due("another first place", x.about(6), 31);
        x.ask(7, 7);
        Check.due("a range inside of it", x.about(6), 40);
        x.ask(0, 7);
        Check.due("the third time", x.about(6), 40);
        x.forget(0);
        x.ask(0, 7);
        Check.due("behind its being forgotten", x.about(6), 51);
    }

    private static void twelve() {
        RiddleDrive x = Check.drive("K40w1");
        for (int i = 0; i < 30; i++) {
            x.ask(i, i);
            Check.due("kept behind " + (i + 1), x.about(5), Math.min(i + 1, 12));
        }
    }

    private static void order() {
        RiddleDrive x = Check.drive("K16w1f0");
        x.ask(9, 9);
        x.ask(3, 3);
        x.ask(12, 12);
        x.ask(0, 1);
        Check.same("as they were given", Check.answers(x), "9-9=-2:0 3-3=-2:0 12-12=-2:0 0-1=-2:0");
    }

    private static void takesThePlace() {
        RiddleDrive x = Check.drive("K16k03q0004q0307q0408");
        x.ask(3, 7);
        Check.same("in the middle", Check.answers(x), "0-4=-2:2 3-7=-2:0 4-8=-2:2");
        x.ask(0, 4);
        Check.same("the first one", Check.answers(x), "0-4=-2:0 3-7=-2:0 4-8=-2:2");
        x.ask(4, 8);
        Check.same("the last one", Check.answers(x), "0-4=-2:0 3-7=-2:0 4-8=-2:0");
        RiddleDrive y = full();
        y.ask(0, 1);
        Check.due("12 answers, none of them pushed out", y.about(8), 0);
        Check.due("the oldest one stays the oldest", y.answer(0, 0), 0);
        y.ask(20, 21);
        Check.due("and is forgotten as such", y.answer(0, 0), 1);
    }

    private static void comesBehind() {
        RiddleDrive x = Check.drive("K16w1f0q0307");
        x.ask(3, 6);
        x.ask(4, 7);
        x.ask(0, 15);
        Check.same("parts and wholes are others", Check.answers(x), "3-7=-2:1 3-6=-2:1 4-7=-2:1 0-15=-2:4");
        x.forget(0);
        x.ask(3, 7);
        Check.same("a forgotten one, too", Check.answers(x), "3-6=-2:1 4-7=-2:1 0-15=-2:4 3-7=-2:1");
    }

    private static void oldestIsForgotten() {
        RiddleDrive x = full();
        Check.due("12 answers", x.about(5), 12);
        Check.due("none is forgotten", x.about(8), 0);
        x.ask(30, 39);
        Check.due("12 answers again", x.about(5), 12);
        Check.due("one is forgotten", x.about(8), 1);
        for (int i = 0; i < 11; i++) {
            Check.due("the second one is the oldest", x.answer(i, 0), i + 1);
            Check.due("and so on", x.answer(i, 1), i + 2);
        }
        Check.due("the new one is the last", x.answer(11, 0), 30);
        Check.due("it is whole", x.answer(11, 1), 39);
        x.ask(0, 1);
        Check.due("what was forgotten pushes out the next one", x.answer(0, 0), 2);
        Check.due("and is the newest", x.answer(11, 0), 0);
    }

    private static void keysForget() {
        String text = "K16q0004q0307q0408q0002q0812";
        String all = "0-4=-2:2 3-7=-2:2 4-8=-2:2 0-2=-2:1 8-12=-2:2";
        String[] due = {
            "3-7=-2:2 4-8=-2:2 8-12=-2:2", "3-7=-2:2 4-8=-2:2 8-12=-2:2", "3-7=-2:2 4-8=-2:2 8-12=-2:2",
            "4-8=-2:2 0-2=-2:1 8-12=-2:2", "0-2=-2:1 8-12=-2:2", "0-4=-2:2 0-2=-2:1 8-12=-2:2",
            "0-4=-2:2 0-2=-2:1 8-12=-2:2", "0-4=-2:2 0-2=-2:1 8-12=-2:2", "0-4=-2:2 3-7=-2:2 0-2=-2:1",
            "0-4=-2:2 3-7=-2:2 4-8=-2:2 0-2=-2:1", "0-4=-2:2 3-7=-2:2 4-8=-2:2 0-2=-2:1",
            "0-4=-2:2 3-7=-2:2 4-8=-2:2 0-2=-2:1", "0-4=-2:2 3-7=-2:2 4-8=-2:2 0-2=-2:1", all, all, all,
        };
        for (int i = 0; i < 16; i++) {
            RiddleDrive written = Check.drive(text);
            Check.same("before", Check.answers(written), all);
            written.write(i, true);
            Check.same("a key written to " + i, Check.answers(written), due[i]);
            RiddleDrive removed = Check.drive("K16k" + i / 10 + i % 10 + text.substring(3));
            removed.write(i, false);
            Check.same("a key removed from " + i, Check.answers(removed), due[i]);
        }
        RiddleDrive x = Check.drive("K40w1s0");
        for (int i = 0; i < 12; i++) {
            x.ask(i, 39);
        }
        x.write(39, true);
        Check.due("all 12", x.about(5), 0);
    }

    private static void secrecyForgets() {
        for (int secrecy = 0; secrecy <= 4; secrecy++) {
            RiddleDrive x = Check.drive("K16k03q0004q0307");
            x.set(1, secrecy);
            Check.due("kept with secrecy " + secrecy, x.about(5), secrecy == 2 ? 2 : 0);
            Check.due("forgotten with secrecy " + secrecy, x.about(8), secrecy == 2 ? 0 : 2);
        }
        RiddleDrive y = full();
        y.set(1, 4);
        Check.due("all 12", y.about(5), 0);
        RiddleDrive z = Check.drive("K16k03q0004q0307");
        z.set(0, 8);
        z.set(2, 9);
        Check.due("another width and fee forget none", z.about(5), 2);
    }
}
