/** Exceptions: what they mean, which one comes first, and that a refused call changes nothing. */
public final class RefusalTest {
    public static void main(String[] args) {
        String s = "EXCEPTIONS";
        Check.sentence(s, "IndexOutOfBoundsException means that a place or an answer does not exist, ",
            RefusalTest::noPlaceOrAnswer);
        Check.sentence(s, "or that a save slot is not 0 or 1. ", RefusalTest::noSlot);
        Check.sentence(s, "IllegalArgumentException means that another argument is out of its range.",
            RefusalTest::anotherArgument);
        Check.sentence(s, "IllegalStateException means what the method says.", RefusalTest::theState);
        Check.sentence(s, "If several exceptions apply to a call, the one that its description names first is thrown.",
            RefusalTest::firstNamed);
        Check.sentence(s, "A call that throws an exception changes nothing.", RefusalTest::changesNothing);
        Check.end("RefusalTest", s);
    }

    private static final Check.Call[] NO_PLACE = {
        x -> x.has(40), x -> x.least(0, 40), x -> x.most(40, 40), x -> x.known(40), x -> x.write(40, true),
        x -> x.ask(0, 40), x -> x.costs(0, 40), x -> x.worst(0, 40), x -> x.has(-1), x -> x.least(-1, 3),
        x -> x.most(-1, -1), x -> x.known(-1), x -> x.write(-1, false), x -> x.ask(-1, 3), x -> x.costs(-1, 3),
        x -> x.worst(-1, 3),
    };
    private static final Check.Call[] NO_ANSWER = {
        x -> x.answer(12, 0), x -> x.forget(12), x -> x.answer(-1, 0), x -> x.forget(-1),
    };
    private static final Check.Call[] NO_SLOT = {
        x -> x.save(2), x -> x.restore(2), x -> x.save(-1), x -> x.restore(-1),
    };
    private static final Check.Call[] NO_ARGUMENT = {
        x -> x.append(256), x -> x.append(-1), x -> x.about(10), x -> x.about(-1), x -> x.answer(0, 4),
        x -> x.answer(0, -1), x -> x.least(3, 2), x -> x.most(3, 2), x -> x.knownAt(-1), x -> x.set(3, 1),
        x -> x.set(-1, 1), x -> x.set(0, 0), x -> x.set(0, 9), x -> x.set(1, 5), x -> x.set(2, 10),
        x -> x.ask(3, 2), x -> x.resize(7), x -> x.resize(41), x -> x.costs(3, 2), x -> x.worst(3, 2),
        x -> x.runScript(0, 0), x -> x.runScript(4, 0), x -> x.runScript(1, -1), x -> x.runScript(1, 100000),
        x -> x.simulate(0, 0), x -> x.simulate(0, 31),
    };

    private static void all(Check.Make make, Class<? extends RuntimeException> want, Check.Call[] calls) {
        for (int i = 0; i < calls.length; i++) {
            Check.refused(make, "call " + i, want, calls[i]);
        }
    }

    private static void noPlaceOrAnswer() {
        all(Check::crowded, IndexOutOfBoundsException.class, NO_PLACE);
        all(Check::busy, IndexOutOfBoundsException.class, NO_PLACE);
        all(RiddleDrive::new, IndexOutOfBoundsException.class, NO_PLACE);
        all(Check::crowded, IndexOutOfBoundsException.class, NO_ANSWER);
        all(Check::busy, IndexOutOfBoundsException.class, NO_ANSWER);
        all(RiddleDrive::new, IndexOutOfBoundsException.class, NO_ANSWER);
    }

    private static void noSlot() {
        all(Check::crowded, IndexOutOfBoundsException.class, NO_SLOT);
        all(Check::busy, IndexOutOfBoundsException.class, NO_SLOT);
        all(RiddleDrive::new, IndexOutOfBoundsException.class, NO_SLOT);
    }

    private static void anotherArgument() {
        all(Check::crowded, IllegalArgumentException.class, NO_ARGUMENT);
        all(Check::busy, IllegalArgumentException.class, NO_ARGUMENT);
    }

    private static void theState() {
        Check.state(Check::crowded, "append to 100 characters", x -> x.append('f'));
        Check.state(RefusalTest::wrongText, "load of no drive", RiddleDrive::load);
        Check.state(RefusalTest::wideCrowd, "a range that is too narrow", x -> x.ask(0, 1));
        Check.state(RiddleDrive::new, "undo of nothing", RiddleDrive::undo);
        Check.state(RiddleDrive::new, "restore of nothing", x -> x.restore(0));
    }

    private static RiddleDrive wrongText() {
        RiddleDrive x = Check.crowded();
        x.clearText();
        Check.type(x, "K40w1f0k39k40");
        return x;
    }

    private static RiddleDrive wideCrowd() {
        RiddleDrive x = Check.crowded();
        x.set(0, 3);
        return x;
    }

    private static void firstNamed() {
        for (int c : new int[] {-1, 256, Integer.MAX_VALUE}) {
            Check.argument(Check::crowded, "append " + c + " to 100 characters", x -> x.append(c));
        }
        for (int what : new int[] {-1, 4}) {
            Check.outside(Check::busy, "answer 2 " + what, x -> x.answer(2, what));
            Check.outside(Check::busy, "answer -1 " + what, x -> x.answer(-1, what));
            Check.outside(RiddleDrive::new, "answer 0 " + what, x -> x.answer(0, what));
        }
        // no such place, and b less than a, and too narrow
        for (int[] r : new int[][] {{12, 3}, {3, -1}, {12, 11}, {0, -1}, {12, -1}, {Integer.MAX_VALUE, 0}}) {
            Check.outside(Check::busy, "least " + r[0] + " " + r[1], x -> x.least(r[0], r[1]));
            Check.outside(Check::busy, "most " + r[0] + " " + r[1], x -> x.most(r[0], r[1]));
            Check.outside(Check::busy, "ask " + r[0] + " " + r[1], x -> x.ask(r[0], r[1]));
            Check.outside(Check::busy, "costs " + r[0] + " " + r[1], x -> x.costs(r[0], r[1]));
            Check.outside(Check::busy, "worst " + r[0] + " " + r[1], x -> x.worst(r[0], r[1]));
        }
        // no such place, and too narrow
        for (int[] r : new int[][] {{11, 12}, {12, 12}, {-1, 0}, {-1, -1}, {12, 13}}) {
            Check.outside(Check::busy, "ask " + r[0] + " " + r[1], x -> x.ask(r[0], r[1]));
            Check.outside(Check::busy, "costs " + r[0] + " " + r[1], x -> x.costs(r[0], r[1]));
            Check.outside(Check::busy, "worst " + r[0] + " " + r[1], x -> x.worst(r[0], r[1]));
        }
        // b less than a, and too narrow
        for (int[] r : new int[][] {{5, 4}, {11, 0}, {1, 0}}) {
            Check.argument(Check::busy, "ask " + r[0] + " " + r[1], x -> x.ask(r[0], r[1]));
            Check.argument(Check::busy, "costs " + r[0] + " " + r[1], x -> x.costs(r[0], r[1]));
            Check.argument(Check::busy, "worst " + r[0] + " " + r[1], x -> x.worst(r[0], r[1]));
        }
        for (int slot : new int[] {-1, 2, Integer.MAX_VALUE}) {
            Check.outside(RiddleDrive::new, "restore " + slot, x -> x.restore(slot));
        }
    }

    /** Several refused calls one behind the other, as if there were none. */
    private static void changesNothing() {
        Check.unchanged(Check::crowded, "all refused calls", RefusalTest::allRefused);
        Check.unchanged(Check::busy, "all refused calls", RefusalTest::allRefused);
        Check.unchanged(RiddleDrive::new, "all refused calls of a new object", RefusalTest::allRefused);
        Check.unchanged(RefusalTest::wrongText, "load", RiddleDrive::load);
        Check.unchanged(RefusalTest::wideCrowd, "ask", x -> x.ask(38, 39));
    }

    private static void allRefused(RiddleDrive x) {
        for (Check.Call[] calls : new Check.Call[][] {NO_PLACE, NO_ANSWER, NO_SLOT, NO_ARGUMENT}) {
            for (Check.Call call : calls) {
                try {
                    call.on(x);
                } catch (IndexOutOfBoundsException | IllegalArgumentException e) {
                    continue;
                }
                Check.due("the call is refused", false, true);
            }
        }
    }
}
