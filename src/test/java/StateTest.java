/** The drive, and promises 1, 6, 7 and 8: a new object, about, has, answer. */
public final class StateTest {
    public static void main(String[] args) {
        theDrive();
        newObject();
        about();
        has();
        answer();
        Check.end("StateTest", "Terms", "THE DRIVE", "Promise 1", "Promise 6", "Promise 7", "Promise 8");
    }

    // ---- the drive

    private static void theDrive() {
        Check.sentence("Terms", "It tells bounds for any range, which question would tell most, what would be known "
            + "behind it at the worst, and what all costs. Changes can be undone.", StateTest::allOfIt);
        String s = "THE DRIVE";
        Check.sentence(s, "The drive has 8 to 40 places, numbered from 0, at first 16.", StateTest::places);
        Check.sentence(s, "At each place there is a key or not (at first not).", StateTest::keysAtFirst);
        Check.sentence(s, "A range is told by its first and its last place.", StateTest::ranges);
        Check.sentence(s, "The drive has a width from 1 to 8, at first 3, ", StateTest::width);
        Check.sentence(s, "a secrecy from 0 to 4, at first 2, ", StateTest::secrecy);
        Check.sentence(s, "and a fee from 0 to 9, at first 1.", StateTest::fee);
    }

    private static void allOfIt() {
        RiddleDrive x = Check.drive("K08s0k02q0004");
        Check.due("least of 0 to 5", x.least(0, 5), 1);
        Check.due("most of 0 to 5", x.most(0, 5), 2);
        // 1 to 7, 2 to 7, 3 to 7 and 4 to 7 are open by 4 and cost the same, 0 to 7 is open by 3
        Check.due("bestQuestion", x.bestQuestion(), 107);
        Check.due("worst of 5 to 7", x.worst(5, 7), 0);
        Check.due("costs of 5 to 7", x.costs(5, 7), 1);
        x.write(2, false);
        x.undo();
        Check.due("the answer is back", x.least(0, 5), 1);
    }

    private static void places() {
        Check.due("places at first", new RiddleDrive().about(0), 16);
        for (int places : new int[] {8, 9, 39, 40}) {
            RiddleDrive x = new RiddleDrive();
            x.resize(places);
            Check.due("places", x.about(0), places);
            Check.due("place 0", x.has(0), false);
            Check.due("the last place", x.has(places - 1), false);
            Check.outside(() -> sized(places), "place " + places, y -> y.has(places));
        }
        Check.argument(RiddleDrive::new, "7 places", x -> x.resize(7));
        Check.argument(RiddleDrive::new, "41 places", x -> x.resize(41));
    }

    private static RiddleDrive sized(int places) {
        RiddleDrive x = new RiddleDrive();
        x.resize(places);
        return x;
    }

    private static void keysAtFirst() {
        Check.same("a new object", Check.keys(new RiddleDrive()), "0000000000000000");
        Check.same("a drive of a text", Check.keys(Check.drive("K08")), "00000000");
        Check.same("places that are new", Check.keys(sized(20)), "00000000000000000000");
        RiddleDrive x = Check.drive("K40k39");
        x.resize(8);
        x.resize(40);
        Check.due("a place that was gone", x.has(39), false);
    }

    private static void ranges() {
        RiddleDrive x = Check.drive("K40w1s0k00k20k39");
        Check.due("one place", x.ask(20, 20), 1);
        Check.due("its neighbours are not in it", x.ask(21, 39), 1);
        Check.due("all places", x.ask(0, 39), 3);
        Check.due("without the last one", x.ask(0, 38), 2);
        Check.due("without the first one", x.ask(1, 39), 2);
    }

    private static void width() {
        Check.due("at first", new RiddleDrive().about(2), 3);
        setting(0, 1, 8);
    }

    private static void secrecy() {
        Check.due("at first", new RiddleDrive().about(3), 2);
        setting(1, 0, 4);
    }

    private static void fee() {
        Check.due("at first", new RiddleDrive().about(4), 1);
        setting(2, 0, 9);
    }

    private static void setting(int what, int low, int high) {
        for (int v = low; v <= high; v++) {
            RiddleDrive x = new RiddleDrive();
            x.set(what, v);
            Check.due("setting " + what, x.about(2 + what), v);
        }
        Check.argument(RiddleDrive::new, "less than " + low, x -> x.set(what, low - 1));
        Check.argument(RiddleDrive::new, "more than " + high, x -> x.set(what, high + 1));
    }

    // ---- promise 1

    private static void newObject() {
        Check.sentence("Promise 1", "Creates a drive of 16 places without keys.", StateTest::isNew);
    }

    private static void isNew() {
        Check.same("a new object", Check.look(new RiddleDrive()),
            "about 16 0 3 2 1 0 0 0 0 0 keys 0000000000000000 known ???????????????? answers ");
        Check.state(RiddleDrive::new, "undo", RiddleDrive::undo);
        Check.state(RiddleDrive::new, "restore(0)", x -> x.restore(0));
        Check.state(RiddleDrive::new, "restore(1)", x -> x.restore(1));
        Check.state(RiddleDrive::new, "load", RiddleDrive::load);
        Check.due("clearText", new RiddleDrive().clearText(), 0);
        RiddleDrive x = new RiddleDrive();
        x.write(0, true);
        x.append('K');
        RiddleDrive y = new RiddleDrive();
        Check.due("another object has keys of its own", y.about(1), 0);
        Check.due("another object has a text of its own", y.append('K'), 1);
    }

    // ---- promise 6

    private static void about() {
        String s = "Promise 6";
        Check.sentence(s, "Returns a number. what: 0: the number of places; ", StateTest::aboutPlaces);
        Check.sentence(s, "1: of keys; ", StateTest::aboutKeys);
        Check.sentence(s, "2: the width; 3: the secrecy; 4: the fee; ", StateTest::aboutSettings);
        Check.sentence(s, "5: the number of answers that are kept; ", StateTest::aboutAnswers);
        Check.sentence(s, "6: what was paid so far; ", StateTest::aboutPaid);
        Check.sentence(s, "7: the questions that were asked so far (free ones, too); ", StateTest::aboutAsked);
        Check.sentence(s, "8: the answers that were forgotten so far, in whatever way (", StateTest::aboutForgotten);
        Check.sentence(s, "replaced ones not counted); ", StateTest::aboutReplaced);
        Check.sentence(s, "9: the number of places that are known", StateTest::aboutKnown);
        Check.sentence(s, "Returns that number.", StateTest::aboutAll);
        Check.sentence(s, "Throws IllegalArgumentException if what is not 0 to 9", StateTest::aboutRefuses);
    }

    private static void aboutPlaces() {
        Check.due("the fewest", Check.drive("K08").about(0), 8);
        Check.due("the most", Check.drive("K40").about(0), 40);
    }

    private static void aboutKeys() {
        RiddleDrive x = Check.drive("K40");
        Check.due("none", x.about(1), 0);
        for (int i = 0; i < 40; i++) {
            x.write(i, true);
            Check.due("some", x.about(1), i + 1);
        }
        x.write(39, true);
        Check.due("all, one written twice", x.about(1), 40);
        x.write(31, false);
        Check.due("one removed", x.about(1), 39);
    }

    private static void aboutSettings() {
        RiddleDrive x = Check.drive("K16w8s4f9");
        Check.due("the greatest width", x.about(2), 8);
        Check.due("the greatest secrecy", x.about(3), 4);
        Check.due("the greatest fee", x.about(4), 9);
        x = Check.drive("K16w1s0f0");
        Check.due("the smallest width", x.about(2), 1);
        Check.due("the smallest secrecy", x.about(3), 0);
        Check.due("the smallest fee", x.about(4), 0);
    }

    private static void aboutAnswers() {
        RiddleDrive x = Check.drive("K40");
        Check.due("none", x.about(5), 0);
        for (int i = 0; i < 12; i++) {
            x.ask(i, 39);
            Check.due("some", x.about(5), i + 1);
        }
        x.ask(12, 39);
        Check.due("no more than 12", x.about(5), 12);
    }

    private static void aboutPaid() {
        RiddleDrive x = Check.drive("K20w4s1f3");
        Check.due("nothing", x.about(6), 0);
        x.ask(0, 3);
        Check.due("for 4 places", x.about(6), 4);
        x.ask(0, 7);
        Check.due("for 8 places, too", x.about(6), 9);
        x.ask(0, 7);
        Check.due("a free one", x.about(6), 9);
        x.forget(0);
        x.resize(8);
        Check.due("what is forgotten stays paid", x.about(6), 9);
        x.costs(0, 7);
        x.worst(0, 7);
        Check.due("what would be is not paid", x.about(6), 9);
    }

    private static void aboutAsked() {
        RiddleDrive x = new RiddleDrive();
        Check.due("none", x.about(7), 0);
        x.ask(0, 7);
        Check.due("one", x.about(7), 1);
        x.ask(0, 7);
        Check.due("a free one", x.about(7), 2);
        x.forget(0);
        x.costs(0, 7);
        x.worst(0, 7);
        x.runScript(1, 10007);
        x.simulate(1, 9);
        Check.due("only what was asked", x.about(7), 2);
    }

    private static void aboutForgotten() {
        RiddleDrive x = Check.drive("K40f0w1");
        for (int i = 0; i < 12; i++) {
            x.ask(i, i);
        }
        Check.due("12 are kept", x.about(8), 0);
        x.ask(12, 12);
        Check.due("the oldest one", x.about(8), 1);
        x.write(12, true);
        Check.due("by write", x.about(8), 2);
        x.forget(0);
        Check.due("by forget", x.about(8), 3);
        x.set(1, 1);
        Check.due("by set", x.about(8), 13);
        x.ask(0, 0);
        x.ask(1, 1);
        x.resize(40);
        Check.due("by resize", x.about(8), 15);
    }

    private static void aboutReplaced() {
        RiddleDrive x = Check.drive("K40f0w1");
        x.ask(0, 0);
        x.ask(0, 0);
        Check.due("one of one", x.about(8), 0);
        for (int i = 1; i < 12; i++) {
            x.ask(i, i);
        }
        x.ask(0, 0);
        x.ask(11, 11);
        Check.due("two of 12", x.about(8), 0);
    }

    private static void aboutKnown() {
        RiddleDrive x = Check.drive("K40s1w1k39");
        Check.due("none", x.about(9), 0);
        x.ask(0, 0);
        Check.due("one", x.about(9), 1);
        x.ask(1, 38);
        Check.due("all but one", x.about(9), 39);
        x.ask(39, 39);
        Check.due("all", x.about(9), 40);
    }

    private static void aboutAll() {
        Check.same("all of them", Check.look(Check.busy()),
            "about 12 3 3 2 4 2 8 3 1 0 keys 000110000100 known ???????????? answers 4-8=-2:2 0-11=3:4");
    }

    private static void aboutRefuses() {
        for (int what : new int[] {-1, 10, Integer.MIN_VALUE, Integer.MAX_VALUE}) {
            Check.argument(Check::busy, "about " + what, x -> x.about(what));
        }
        for (int what = 0; what <= 9; what++) {
            int number = what;
            Check.passes(Check::busy, "about " + what, x -> x.about(number));
            Check.unchanged(Check::busy, "about " + what, x -> x.about(number));
        }
    }

    // ---- promise 7

    private static void has() {
        String s = "Promise 7";
        Check.sentence(s, "Tells whether there is a key, as the drive itself knows.", StateTest::hasKnows);
        Check.sentence(s, "i: place Returns whether there is a key at this place.", StateTest::hasTells);
        Check.sentence(s, "Throws IndexOutOfBoundsException if there is no such place", StateTest::hasRefuses);
    }

    private static void hasKnows() {
        RiddleDrive x = Check.drive("K16k03");
        Check.due("without a question", x.has(3), true);
        Check.due("which is not known", x.known(3), -1);
        x.write(3, false);
        Check.due("removed", x.has(3), false);
    }

    private static void hasTells() {
        RiddleDrive x = Check.drive("K40k00k31k32k39");
        Check.same("has", Check.keys(x), "1000000000000000000000000000000110000001");
    }

    private static void hasRefuses() {
        for (int i : new int[] {-1, 12, 13, 64, 67, Integer.MIN_VALUE, Integer.MAX_VALUE}) {
            Check.outside(Check::busy, "has " + i, x -> x.has(i));
        }
        Check.outside(() -> Check.drive("K40k39"), "has(40) of 40", x -> x.has(40));
        Check.outside(() -> Check.drive("K08k07"), "has(8) of 8", x -> x.has(8));
        Check.passes(Check::busy, "has(11) of 12", x -> x.has(11));
    }

    // ---- promise 8

    private static void answer() {
        String s = "Promise 8";
        Check.sentence(s, "Returns a number of an answer that is kept. i: which one, from 0, the oldest one first",
            StateTest::answerOrder);
        Check.sentence(s, "what: 0: the first place of its range; 1: the last one; ", StateTest::answerRange);
        Check.sentence(s, "2: the answer, FEW or the number of keys; ", StateTest::answerTold);
        Check.sentence(s, "3: what was paid for it (", StateTest::answerPaid);
        Check.sentence(s, "0, if it took the place of another one)", StateTest::answerReplaced);
        Check.sentence(s, "Returns that number.", StateTest::answerAll);
        Check.sentence(s, "Throws IndexOutOfBoundsException if there is no such answer", StateTest::answerOutside);
        Check.sentence(s, "Throws IllegalArgumentException if what is not 0 to 3", StateTest::answerArgument);
    }

    private static void answerOrder() {
        RiddleDrive x = Check.drive("K40w1");
        for (int i = 0; i < 12; i++) {
            x.ask(30 - i, 30);
        }
        for (int i = 0; i < 12; i++) {
            Check.due("answer " + i, x.answer(i, 0), 30 - i);
        }
        x.ask(5, 30);
        Check.due("the oldest one then", x.answer(0, 0), 29);
        Check.due("the newest one then", x.answer(11, 0), 5);
    }

    private static void answerRange() {
        RiddleDrive x = Check.drive("K40w1q0000q3939q0039q0738");
        Check.same("ranges", Check.answers(x), "0-0=-2:1 39-39=-2:1 0-39=-2:11 7-38=-2:9");
    }

    private static void answerTold() {
        RiddleDrive x = Check.drive("K40k00k01k39");
        x.ask(1, 38);
        x.ask(0, 2);
        x.ask(0, 39);
        Check.due("one key", x.answer(0, 2), RiddleDrive.FEW);
        Check.due("two keys", x.answer(1, 2), 2);
        Check.due("three keys", x.answer(2, 2), 3);
        x.set(1, 0);
        x.ask(2, 38);
        Check.due("no key, with secrecy 0", x.answer(0, 2), 0);
    }

    private static void answerPaid() {
        RiddleDrive x = Check.drive("K40w1f0q0000q0039");
        Check.due("no fee, one place", x.answer(0, 3), 0);
        Check.due("no fee, 40 places", x.answer(1, 3), 10);
        x.set(2, 9);
        x.ask(1, 1);
        x.ask(1, 39);
        Check.due("fee 9, one place", x.answer(2, 3), 9);
        Check.due("fee 9, 39 places", x.answer(3, 3), 18);
        Check.due("another fee leaves what was paid before", x.answer(1, 3), 10);
    }

    private static void answerReplaced() {
        RiddleDrive x = Check.drive("K16k03k04q0007q0509q0204");
        Check.same("before", Check.answers(x), "0-7=2:3 5-9=-2:2 2-4=2:1");
        x.ask(5, 9);
        Check.same("behind", Check.answers(x), "0-7=2:3 5-9=-2:0 2-4=2:1");
        x.write(9, true);
        x.ask(5, 9);
        Check.same("a forgotten one is not replaced", Check.answers(x), "0-7=2:3 2-4=2:1 5-9=-2:2");
    }

    private static void answerAll() {
        Check.same("all of them", Check.answers(Check.busy()), "4-8=-2:2 0-11=3:4");
    }

    private static void answerOutside() {
        for (int i : new int[] {-1, 2, 3, 11, 12, 1 << 30, Integer.MIN_VALUE, Integer.MAX_VALUE}) {
            Check.outside(Check::busy, "answer " + i + " 0", x -> x.answer(i, 0));
            Check.outside(Check::busy, "answer " + i + " 4", x -> x.answer(i, 4));
            Check.outside(Check::busy, "answer " + i + " -1", x -> x.answer(i, -1));
        }
        Check.outside(RiddleDrive::new, "answer(0, 0) of none", x -> x.answer(0, 0));
        Check.outside(QuestionTest::full, "answer(12, 0) of 12", x -> x.answer(12, 0));
        Check.passes(QuestionTest::full, "answer(11, 0) of 12", x -> x.answer(11, 0));
    }

    private static void answerArgument() {
        for (int what : new int[] {-1, 4, Integer.MIN_VALUE, Integer.MAX_VALUE}) {
            Check.argument(Check::busy, "answer 0 " + what, x -> x.answer(0, what));
            Check.argument(Check::busy, "answer 1 " + what, x -> x.answer(1, what));
        }
    }
}
