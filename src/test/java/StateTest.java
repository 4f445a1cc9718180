/** Promises 1, 6, 7 and 8: a new object, about, has, answer. */
public final class StateTest {
    public static void main(String[] args) {
        newObject();
        aboutCounts();
        aboutForgotten();
        aboutRefuses();
        hasTells();
        answerTells();
        answerRefuses();
        Check.end("StateTest");
    }

    private static void newObject() {
        Check.due("NONE", RiddleDrive.NONE, -1);
        Check.due("FEW", RiddleDrive.FEW, -2);
        RiddleDrive x = new RiddleDrive();
        Check.same("a new object", Check.look(x), "error 0 about 16 0 3 2 1 0 0 0 0 0 "
            + "keys 0000000000000000 known ???????????????? answers ");
        Check.state(x, "undo of a new object", x::undo);
        Check.state(x, "restore(0) of a new object", () -> x.restore(0));
        Check.state(x, "restore(1) of a new object", () -> x.restore(1));
        Check.state(x, "load of a new object", x::load);
        Check.due("clearText of a new object", x.clearText(), 0);
        x.write(0, true);
        Check.due("another object is another drive", new RiddleDrive().about(1), 0);
    }

    private static void aboutCounts() {
        RiddleDrive x = Check.drive("K20w4s1f3");
        Check.due("places", x.about(0), 20);
        Check.due("width", x.about(2), 4);
        Check.due("secrecy", x.about(3), 1);
        Check.due("fee", x.about(4), 3);
        x.write(19, true);
        x.write(0, true);
        x.write(0, true);
        Check.due("keys", x.about(1), 2);
        x.ask(0, 3);
        Check.due("paid for 4 places", x.about(6), 4);
        x.ask(0, 6);
        Check.due("paid for 7 places", x.about(6), 8);
        x.ask(0, 7);
        Check.due("paid for 8 places", x.about(6), 13);
        x.ask(0, 7);
        Check.due("a free question is not paid", x.about(6), 13);
        Check.due("a free question is asked", x.about(7), 4);
        Check.due("answers", x.about(5), 3);
        Check.due("the key of 0 to 7 is in 0 to 3", x.about(9), 4);
        x.ask(8, 15);
        Check.due("FEW with secrecy 1 makes 8 more places known", x.about(9), 12);
    }

    private static void aboutForgotten() {
        RiddleDrive x = Check.drive("K40f0w1");
        for (int i = 0; i < 13; i++) {
            x.ask(i, i);
        }
        Check.due("the thirteenth answer pushes one out", x.about(8), 1);
        Check.due("12 answers are kept", x.about(5), 12);
        x.ask(12, 12);
        Check.due("a replaced one is not forgotten", x.about(8), 1);
        x.write(12, true);
        Check.due("forgotten by a key", x.about(8), 2);
        x.forget(0);
        Check.due("forgotten by forget", x.about(8), 3);
        x.set(1, 1);
        Check.due("forgotten by another secrecy", x.about(8), 13);
        x.ask(0, 0);
        x.ask(1, 1);
        x.resize(40);
        Check.due("forgotten by resize", x.about(8), 15);
        x.undo();
        Check.due("undo takes that back", x.about(8), 13);
    }

    private static void aboutRefuses() {
        RiddleDrive x = Check.drive("K12k03q0205");
        Check.argument(x, "about(-1)", () -> x.about(-1));
        Check.argument(x, "about(10)", () -> x.about(10));
        Check.argument(x, "about(smallest)", () -> x.about(Integer.MIN_VALUE));
        Check.argument(x, "about(greatest)", () -> x.about(Integer.MAX_VALUE));
    }

    private static void hasTells() {
        RiddleDrive x = Check.drive("K40k00k31k32k39");
        Check.same("has", Check.keys(x), "1000000000000000000000000000000110000001");
        Check.outside(x, "has(-1)", () -> x.has(-1));
        Check.outside(x, "has(40)", () -> x.has(40));
        x.resize(39);
        Check.outside(x, "has(39) of 39 places", () -> x.has(39));
        Check.outside(x, "has(smallest)", () -> x.has(Integer.MIN_VALUE));
        Check.outside(x, "has(greatest)", () -> x.has(Integer.MAX_VALUE));
    }

    private static void answerTells() {
        RiddleDrive x = Check.drive("K16k03k04");
        x.ask(0, 7);
        x.ask(5, 9);
        x.ask(2, 4);
        Check.same("the oldest one is first", Check.answers(x), "0-7=2:3 5-9=-2:2 2-4=2:1");
        x.ask(0, 7);
        Check.same("it takes the place of the one before", Check.answers(x), "0-7=2:0 5-9=-2:2 2-4=2:1");
        x.ask(0, 8);
        Check.same("another range comes behind", Check.answers(x), "0-7=2:0 5-9=-2:2 2-4=2:1 0-8=2:3");
        x.ask(1, 7);
        Check.same("the same last place is another range", Check.answers(x),
            "0-7=2:0 5-9=-2:2 2-4=2:1 0-8=2:3 1-7=2:2");
    }

    private static void answerRefuses() {
        RiddleDrive x = Check.drive("K16k03k04q0007q0204");
        Check.outside(x, "answer(-1, 0)", () -> x.answer(-1, 0));
        Check.outside(x, "answer(2, 0)", () -> x.answer(2, 0));
        Check.outside(x, "answer(2, 4)", () -> x.answer(2, 4));
        Check.outside(x, "answer(-1, -1)", () -> x.answer(-1, -1));
        Check.outside(x, "answer(greatest, 0)", () -> x.answer(Integer.MAX_VALUE, 0));
        Check.outside(x, "answer(1 << 30, 0)", () -> x.answer(1 << 30, 0));
        Check.argument(x, "answer(1, 4)", () -> x.answer(1, 4));
        Check.argument(x, "answer(1, -1)", () -> x.answer(1, -1));
        Check.argument(x, "answer(0, greatest)", () -> x.answer(0, Integer.MAX_VALUE));
        RiddleDrive none = new RiddleDrive();
        Check.outside(none, "answer(0, 0) of a new object", () -> none.answer(0, 0));
    }
}
