/** Actions and undo, and promises 13 to 18: write, set, ask, forget, resize, undo. */
public final class ActionTest {
    private static final int[] NO_PLACES = {-1, 12, 13, 40, 64, 67, Integer.MIN_VALUE, Integer.MAX_VALUE};

    public static void main(String[] args) {
        actions();
        write();
        set();
        ask();
        forget();
        resize();
        undo();
        Check.end("ActionTest", "ACTIONS AND UNDO", "Promise 13", "Promise 14", "Promise 15", "Promise 16",
            "Promise 17", "Promise 18");
    }

    // ---- actions and undo

    private static void actions() {
        String s = "ACTIONS AND UNDO";
        Check.sentence(s, "The methods in the section \"actions\" change the state, ", ActionTest::actionsChange);
        Check.sentence(s, "which consists of everything but the text and the save slots. ", ActionTest::notTheState);
        Check.sentence(s, "Each call of one of them that does not throw an exception is an action, ",
            ActionTest::everyCallIsAnAction);
        Check.sentence(s, "also if nothing becomes different ", ActionTest::nothingDifferent);
        Check.sentence(s, "(undo is none).", ActionTest::undoIsNone);
        Check.sentence(s, "Before each action, the state is remembered.", ActionTest::stateBefore);
        Check.sentence(s, "At most 14 states are remembered; ", ActionTest::fourteen);
        Check.sentence(s, "when one more is remembered, the oldest one is forgotten.", ActionTest::oldestState);
        Check.sentence(s, "load and restore are not actions.", ActionTest::loadAndRestore);
    }

    private static RiddleDrive acted(Check.Call action) {
        RiddleDrive x = Check.busy();
        action.on(x);
        return x;
    }

    private static final Check.Call[] ACTIONS = {
        x -> x.write(0, true), x -> x.write(4, false), x -> x.set(0, 8), x -> x.set(1, 0), x -> x.set(2, 0),
        x -> x.ask(0, 5), x -> x.ask(4, 8), x -> x.forget(1), x -> x.resize(40), x -> x.resize(8), x -> x.resize(12),
    };

    private static void actionsChange() {
        for (int i = 0; i < ACTIONS.length; i++) {
            boolean same = Check.look(acted(ACTIONS[i])).equals(Check.look(Check.busy()));
            Check.due("action " + i + " changes nothing", same, false);
        }
    }

    private static void notTheState() {
        RiddleDrive x = Check.busy();
        int length = x.append('k');
        x.write(0, true);
        x.save(0);
        x.append('0');
        x.append('7');
        x.undo();
        Check.due("undo leaves the text", x.errorPosition(), -1);
        Check.due("undo leaves the length of the text", x.append('f'), length + 3);
        x.restore(0);
        Check.due("undo leaves the slot", x.has(0), true);
        Check.due("restore leaves the text", x.append('3'), length + 4);
        Check.due("restore leaves the other slot", x.restore(1), 3);
        Check.due("which holds another state", x.has(0), false);
    }

    private static void everyCallIsAnAction() {
        Check.Call[] others = {
            x -> x.append('k'), x -> x.clearText(), x -> x.errorPosition(), x -> x.about(9), x -> x.has(0),
            x -> x.answer(0, 0), x -> x.least(0, 1), x -> x.most(0, 1), x -> x.known(0), x -> x.knownAt(0),
            x -> x.costs(0, 1), x -> x.bestQuestion(), x -> x.worst(0, 3), x -> x.leastWorth(),
            x -> x.runScript(1, 20010), x -> x.simulate(1, 5), x -> x.save(0), x -> x.save(1),
        };
        for (int i = 0; i < ACTIONS.length; i++) {
            Check.due("states behind action " + i, acted(ACTIONS[i]).undo(), 4);
        }
        for (int i = 0; i < others.length; i++) {
            Check.due("states behind call " + i + ", which is none", acted(others[i]).undo(), 3);
        }
        Check.Call[] refused = {
            x -> x.write(12, true), x -> x.set(0, 0), x -> x.ask(0, 12), x -> x.ask(3, 2), x -> x.ask(3, 4),
            x -> x.forget(2), x -> x.resize(7),
        };
        for (int i = 0; i < refused.length; i++) {
            Check.Call call = refused[i];
            Check.due("states behind refused call " + i, acted(x -> tryIt(x, call)).undo(), 3);
        }
    }

    private static void tryIt(RiddleDrive x, Check.Call call) {
        try {
            call.on(x);
            Check.due("the call is refused", false, true);
        } catch (IndexOutOfBoundsException | IllegalArgumentException | IllegalStateException e) {
            Check.due("the call is refused", true, true);
        }
    }

    private static void nothingDifferent() {
        Check.Call[] idle = {
            x -> x.write(3, true), x -> x.write(0, false), x -> x.set(0, 3), x -> x.set(1, 2), x -> x.set(2, 4),
        };
        for (int i = 0; i < idle.length; i++) {
            Check.same("the state behind " + i, Check.look(acted(idle[i])), Check.look(Check.busy()));
            Check.due("states behind " + i, acted(idle[i]).undo(), 4);
        }
        RiddleDrive x = new RiddleDrive();
        x.resize(16);
        Check.due("the same size without answers", x.undo(), 0);
    }

    private static void undoIsNone() {
        RiddleDrive x = Check.busy();
        Check.due("the first undo", x.undo(), 3);
        Check.due("the second undo takes back one more", x.undo(), 2);
        x.write(0, true);
        Check.due("an action between", x.undo(), 2);
        Check.due("the third undo", x.undo(), 1);
        Check.due("the fourth undo", x.undo(), 0);
        Check.due("keys of the text", x.about(1), 2);
    }

    private static void stateBefore() {
        for (int i = 0; i < ACTIONS.length; i++) {
            RiddleDrive x = acted(ACTIONS[i]);
            x.undo();
            Check.same("behind action " + i + " and undo", Check.look(x), Check.look(Check.busy()));
        }
    }

    /** A drive of 40 places behind so many writes, of keys at 0, 1 and so on. */
    private static RiddleDrive written(int actions) {
        RiddleDrive x = Check.drive("K40");
        for (int i = 0; i < actions; i++) {
            x.write(i, true);
        }
        return x;
    }

    private static void fourteen() {
        for (int actions : new int[] {1, 13, 14, 15, 28, 40}) {
            Check.due("states behind " + actions, written(actions).undo(), Math.min(actions, 14) - 1);
        }
        RiddleDrive x = written(14);
        for (int left = 13; left >= 0; left--) {
            Check.due("states", x.undo(), left);
        }
        Check.due("all 14 are taken back", x.about(1), 0);
    }

    private static void oldestState() {
        RiddleDrive x = written(15);
        for (int left = 13; left >= 0; left--) {
            Check.due("states", x.undo(), left);
            Check.due("keys", x.about(1), left + 1);
        }
        Check.state(() -> takenBack(15), "the first of 15", RiddleDrive::undo);
        x.write(30, true);
        Check.due("states behind one more", x.undo(), 0);
        RiddleDrive y = written(40);
        y.undo();
        y.write(39, false);
        y.write(38, false);
        Check.due("15 and one back and two more are 14", y.undo(), 13);
        for (int left = 12; left >= 0; left--) {
            y.undo();
        }
        Check.due("keys of the oldest one", y.about(1), 27);
    }

    private static RiddleDrive takenBack(int actions) {
        RiddleDrive x = written(actions);
        for (int i = 0; i < 14; i++) {
            x.undo();
        }
        return x;
    }

    private static void loadAndRestore() {
        Check.state(() -> acted(RiddleDrive::load), "undo behind load", RiddleDrive::undo);
        Check.state(() -> acted(y -> y.restore(1)), "undo behind restore", RiddleDrive::undo);
    }

    // ---- promise 13

    private static void write() {
        String s = "Promise 13";
        Check.sentence(s, "Writes a key to a place, or removes it. i: place", ActionTest::writePlaces);
        Check.sentence(s, "is: whether there is a key then", ActionTest::writeKeys);
        Check.sentence(s, "Returns how many answers are forgotten ", ActionTest::writeForgets);
        Check.sentence(s, "(0 if it was so already: then none is).", ActionTest::writeIdle);
        Check.sentence(s, "Throws IndexOutOfBoundsException if there is no such place", ActionTest::writeRefuses);
    }

    private static void writePlaces() {
        RiddleDrive x = Check.drive("K40");
        for (int i : new int[] {0, 31, 32, 39}) {
            x.write(i, true);
        }
        Check.same("keys", Check.keys(x), "1000000000000000000000000000000110000001");
        x.write(0, false);
        x.write(39, false);
        Check.same("keys", Check.keys(x), "0000000000000000000000000000000110000000");
    }

    private static void writeKeys() {
        for (boolean before : new boolean[] {false, true}) {
            for (boolean then : new boolean[] {false, true}) {
                RiddleDrive x = Check.drive("K08");
                x.write(5, before);
                x.write(5, then);
                Check.due(before + ", then " + then, x.has(5), then);
                Check.due(before + ", then " + then, x.about(1), then ? 1 : 0);
            }
        }
    }

    private static void writeForgets() {
        RiddleDrive x = Check.drive("K16k03q0004q0307q0408q0002q0812");
        Check.due("a new key at 4", x.write(4, true), 3);
        Check.same("the answers that stay", Check.answers(x), "0-2=-2:1 8-12=-2:2");
        Check.due("a key removed at 3", x.write(3, false), 0);
        Check.due("at the last place of a range", x.write(2, true), 1);
        Check.due("at the first place of a range", x.write(8, true), 1);
        Check.due("none is left", x.write(8, false), 0);
        Check.due("forgotten", x.about(8), 5);
        RiddleDrive y = Check.drive("K40w1s0");
        for (int i = 0; i < 12; i++) {
            y.ask(i, 39);
        }
        Check.due("all 12", y.write(39, true), 12);
    }

    private static void writeIdle() {
        RiddleDrive x = Check.drive("K16k03q0004q0307");
        Check.due("a key that is there", x.write(3, true), 0);
        Check.due("no key that is not there", x.write(4, false), 0);
        Check.same("none is forgotten", Check.answers(x), "0-4=-2:2 3-7=-2:2");
        Check.due("none is counted", x.about(8), 0);
    }

    private static void writeRefuses() {
        for (int i : NO_PLACES) {
            Check.outside(Check::busy, "write " + i + " true", x -> x.write(i, true));
            Check.outside(Check::busy, "write " + i + " false", x -> x.write(i, false));
        }
        Check.outside(() -> Check.drive("K40"), "write(40, true) of 40", x -> x.write(40, true));
        Check.passes(Check::busy, "write(11, true) of 12", x -> x.write(11, true));
    }

    // ---- promise 14

    private static void set() {
        String s = "Promise 14";
        Check.sentence(s, "Changes a setting. what: 0: the width; 1: the secrecy; 2: the fee", ActionTest::setOne);
        Check.sentence(s, "v: the new value, in its range", ActionTest::setValues);
        Check.sentence(s, "Returns the previous one.", ActionTest::setPrevious);
        Check.sentence(s, "Throws IllegalArgumentException if what or v is out of range", ActionTest::setRefuses);
    }

    private static void setOne() {
        RiddleDrive x = new RiddleDrive();
        x.set(0, 4);
        Check.same("the width", Check.look(x).substring(0, 14), "about 16 0 4 2");
        x.set(1, 3);
        Check.same("the secrecy", Check.look(x).substring(0, 14), "about 16 0 4 3");
        x.set(2, 7);
        Check.same("the fee", Check.look(x).substring(0, 16), "about 16 0 4 3 7");
    }

    private static void setValues() {
        int[][] ranges = {{0, 1, 8}, {1, 0, 4}, {2, 0, 9}};
        for (int[] r : ranges) {
            for (int v = r[1]; v <= r[2]; v++) {
                RiddleDrive x = Check.drive("K16s1");
                x.set(r[0], v);
                Check.due("setting " + r[0], x.about(2 + r[0]), v);
            }
        }
        RiddleDrive y = Check.drive("K08q0007");
        y.set(0, 8);
        y.set(2, 9);
        Check.same("width and fee change nothing else", Check.answers(y), "0-7=-2:3");
        Check.due("the new fee counts from now on", y.ask(0, 7), RiddleDrive.FEW);
        Check.due("free", y.about(6), 3);
        y.set(1, 4);
        y.ask(0, 7);
        Check.due("paid", y.about(6), 14);
    }

    private static void setPrevious() {
        RiddleDrive x = new RiddleDrive();
        int[][] due = {
            {0, 8, 3}, {0, 1, 8}, {0, 1, 1}, {1, 4, 2}, {1, 0, 4}, {1, 0, 0}, {2, 9, 1}, {2, 0, 9}, {2, 0, 0},
        };
        for (int[] d : due) {
            Check.due("set " + d[0] + " " + d[1], x.set(d[0], d[1]), d[2]);
        }
    }

    private static void setRefuses() {
        int[][] wrong = {
            {0, 0}, {0, 9}, {0, -1}, {1, -1}, {1, 5}, {1, 9}, {2, -1}, {2, 10}, {-1, 1}, {3, 1}, {3, 0}, {-1, -1},
            {3, 99}, {Integer.MAX_VALUE, 1}, {Integer.MIN_VALUE, 1}, {0, Integer.MIN_VALUE}, {1, Integer.MAX_VALUE},
            {2, Integer.MIN_VALUE}, {0, Integer.MAX_VALUE}, {256, 1},
        };
        for (int[] w : wrong) {
            Check.argument(Check::busy, "set " + w[0] + " " + w[1], x -> x.set(w[0], w[1]));
        }
    }

    // ---- promise 15

    private static void ask() {
        String s = "Promise 15";
        Check.sentence(s, "Asks a question. a: first place b: last place", ActionTest::askRanges);
        Check.sentence(s, "Returns the answer, FEW or the number of keys.", ActionTest::askTells);
        Check.sentence(s, "Throws IndexOutOfBoundsException if there is no such place", ActionTest::askOutside);
        Check.sentence(s, "Throws IllegalArgumentException if b is less than a", ActionTest::askBackward);
        Check.sentence(s, "Throws IllegalStateException if the range has fewer places than the width",
            ActionTest::askNarrow);
    }

    private static void askRanges() {
        RiddleDrive x = Check.drive("K40k00k01k20k38k39");
        Check.due("the first places", x.ask(0, 2), 2);
        Check.due("the last places", x.ask(37, 39), 2);
        Check.due("all places", x.ask(0, 39), 5);
        Check.same("they are kept", Check.answers(x), "0-2=2:1 37-39=2:1 0-39=5:11");
        Check.due("asked", x.about(7), 3);
        Check.due("paid", x.about(6), 13);
    }

    private static void askTells() {
        RiddleDrive x = Check.drive("K40s2k00k01k20k38k39");
        Check.due("one key", x.ask(1, 3), RiddleDrive.FEW);
        Check.due("no key", x.ask(2, 19), RiddleDrive.FEW);
        Check.due("two keys", x.ask(0, 19), 2);
        Check.due("again, for nothing", x.ask(1, 3), RiddleDrive.FEW);
        x.set(1, 0);
        Check.due("secrecy 0 tells 0", x.ask(2, 19), 0);
        x.set(1, 4);
        Check.due("secrecy 4 keeps silent about 3", x.ask(0, 37), RiddleDrive.FEW);
        Check.due("secrecy 4 tells 4", x.ask(0, 38), 4);
    }

    private static void askOutside() {
        int[][] wrong = {
            {-1, 3}, {0, 12}, {12, 3}, {12, 12}, {3, -1}, {-1, -1}, {11, 12}, {-1, 12},
            {Integer.MIN_VALUE, Integer.MAX_VALUE}, {Integer.MAX_VALUE, Integer.MIN_VALUE}, {0, Integer.MAX_VALUE},
            {Integer.MIN_VALUE, 0},
        };
        for (int[] w : wrong) {
            Check.outside(Check::busy, "ask " + w[0] + " " + w[1], x -> x.ask(w[0], w[1]));
        }
        Check.passes(Check::busy, "ask(0, 11)", x -> x.ask(0, 11));
    }

    private static void askBackward() {
        // the width is 3, so these are too narrow as well
        for (int[] w : new int[][] {{5, 4}, {11, 0}, {1, 0}, {11, 10}}) {
            Check.argument(Check::busy, "ask " + w[0] + " " + w[1], x -> x.ask(w[0], w[1]));
            Check.argument(ActionTest::widthOne, "width 1, ask " + w[0] + " " + w[1], x -> x.ask(w[0], w[1]));
        }
        Check.passes(ActionTest::widthOne, "width 1, ask(5, 5)", x -> x.ask(5, 5));
    }

    private static RiddleDrive widthOne() {
        return acted(x -> x.set(0, 1));
    }

    private static void askNarrow() {
        for (int[] w : new int[][] {{5, 6}, {5, 5}, {0, 1}, {10, 11}, {11, 11}}) {
            Check.state(Check::busy, "ask " + w[0] + " " + w[1], x -> x.ask(w[0], w[1]));
        }
        Check.passes(Check::busy, "ask(5, 7)", x -> x.ask(5, 7));
        Check.state(() -> acted(x -> x.set(0, 6)), "about 4 to 8 there is an answer", x -> x.ask(4, 8));
        Check.state(() -> Check.drive("K08w8"), "7 of 8 places", x -> x.ask(1, 7));
        Check.passes(() -> Check.drive("K08w8"), "8 of 8 places", x -> x.ask(0, 7));
    }

    // ---- promise 16

    private static void forget() {
        String s = "Promise 16";
        Check.sentence(s, "Forgets an answer that is kept. i: which one", ActionTest::forgetOne);
        Check.sentence(s, "Returns the number of answers that are kept then.", ActionTest::forgetCounts);
        Check.sentence(s, "Throws IndexOutOfBoundsException if there is no such answer", ActionTest::forgetRefuses);
    }

    private static void forgetOne() {
        String[] due = {"3-7=-2:2 4-8=-2:2 0-2=-2:1", "0-4=-2:2 4-8=-2:2 0-2=-2:1", "0-4=-2:2 3-7=-2:2 0-2=-2:1",
            "0-4=-2:2 3-7=-2:2 4-8=-2:2"};
        for (int i = 0; i < due.length; i++) {
            RiddleDrive x = Check.drive("K16k03q0004q0307q0408q0002");
            x.forget(i);
            Check.same("without " + i, Check.answers(x), due[i]);
            Check.due("forgotten", x.about(8), 1);
            Check.due("still paid", x.about(6), 7);
            Check.due("still asked", x.about(7), 4);
        }
        RiddleDrive y = QuestionTest.full();
        y.forget(11);
        Check.due("the last of 12", y.answer(10, 0), 10);
        RiddleDrive z = QuestionTest.full();
        z.forget(0);
        Check.due("the first of 12", z.answer(0, 0), 1);
        Check.due("the last one then", z.answer(10, 1), 12);
    }

    private static void forgetCounts() {
        RiddleDrive x = QuestionTest.full();
        for (int left = 11; left >= 0; left--) {
            Check.due("left", x.forget(left / 2), left);
        }
    }

    private static void forgetRefuses() {
        for (int i : new int[] {-1, 2, 3, 11, 12, Integer.MIN_VALUE, Integer.MAX_VALUE}) {
            Check.outside(Check::busy, "forget " + i, x -> x.forget(i));
        }
        Check.outside(RiddleDrive::new, "forget(0) of none", x -> x.forget(0));
        Check.outside(QuestionTest::full, "forget(12) of 12", x -> x.forget(12));
        Check.passes(QuestionTest::full, "forget(11) of 12", x -> x.forget(11));
    }

    // ---- promise 17

    private static void resize() {
        String s = "Promise 17";
        Check.sentence(s, "Takes a drive with another number of places ", ActionTest::resizeTakes);
        Check.sentence(s, "(or the same); ", ActionTest::resizeToTheSame);
        Check.sentence(s, "keys beyond them are gone, ", ActionTest::resizeCuts);
        Check.sentence(s, "and all answers are forgotten.", ActionTest::resizeForgets);
        Check.sentence(s, "places: 8 to 40", ActionTest::resizePlaces);
        Check.sentence(s, "Returns the number of keys then.", ActionTest::resizeCounts);
        Check.sentence(s, "Throws IllegalArgumentException if places is out of range", ActionTest::resizeRefuses);
    }

    private static void resizeTakes() {
        RiddleDrive x = Check.drive("K16w4s1f3k00k07k08k15q0007");
        x.resize(40);
        Check.same("settings, keys and counts stay", Check.look(x), "about 40 4 4 1 3 0 5 1 1 0 keys "
            + "1000000110000001000000000000000000000000 known ???????????????????????????????????????? answers ");
        Check.due("the new places can be written", x.write(39, true), 0);
        Check.due("and asked for", x.ask(16, 39), 1);
    }

    private static void resizeToTheSame() {
        RiddleDrive x = Check.drive("K12k00k11q0011");
        x.resize(12);
        Check.same("only the answers are gone", Check.look(x),
            "about 12 2 3 2 1 0 4 1 1 0 keys 100000000001 known ???????????? answers ");
    }

    private static void resizeCuts() {
        RiddleDrive x = Check.drive("K16k00k07k08k15");
        x.resize(8);
        Check.same("8 places", Check.keys(x), "10000001");
        x.resize(16);
        Check.same("they don't come back", Check.keys(x), "1000000100000000");
        RiddleDrive y = Check.drive("K40k38k39");
        y.resize(39);
        Check.due("the last key", y.has(38), true);
        y.resize(40);
        Check.due("the key beyond", y.has(39), false);
    }

    private static void resizeForgets() {
        for (int places : new int[] {8, 39, 40}) {
            RiddleDrive x = QuestionTest.full();
            x.resize(places);
            Check.due("kept with " + places, x.about(5), 0);
            Check.due("forgotten with " + places, x.about(8), 12);
        }
    }

    private static void resizePlaces() {
        for (int places = 8; places <= 40; places++) {
            RiddleDrive x = new RiddleDrive();
            x.resize(places);
            Check.due("places", x.about(0), places);
        }
    }

    private static void resizeCounts() {
        RiddleDrive x = Check.drive("K40k00k07k08k39");
        Check.due("40 places", x.resize(40), 4);
        Check.due("39 places", x.resize(39), 3);
        Check.due("9 places", x.resize(9), 3);
        Check.due("8 places", x.resize(8), 2);
        Check.due("40 places again", x.resize(40), 2);
        Check.due("no keys", new RiddleDrive().resize(40), 0);
    }

    private static void resizeRefuses() {
        for (int places : new int[] {7, 41, 0, -1, -8, 8 + 256, Integer.MIN_VALUE, Integer.MAX_VALUE}) {
            Check.argument(Check::busy, "resize " + places, x -> x.resize(places));
        }
    }

    // ---- promise 18

    private static void undo() {
        String s = "Promise 18";
        Check.sentence(s, "Takes back the last action that is remembered.", ActionTest::undoTakesBack);
        Check.sentence(s, "Returns how many states are still remembered.", ActionTest::undoCounts);
        Check.sentence(s, "Throws IllegalStateException if none is remembered", ActionTest::undoRefuses);
    }

    private static RiddleDrive story(int actions) {
        Check.Call[] all = {
            x -> x.ask(0, 11), x -> x.write(2, true), x -> x.set(0, 1), x -> x.set(1, 0), x -> x.ask(2, 2),
            x -> x.forget(0), x -> x.resize(30),
        };
        RiddleDrive x = Check.drive("K12k03q0205");
        for (int i = 0; i < actions; i++) {
            all[i].on(x);
        }
        return x;
    }

    private static void undoTakesBack() {
        for (int actions = 0; actions <= 7; actions++) {
            RiddleDrive x = story(7);
            for (int i = 7; i > actions; i--) {
                x.undo();
            }
            Check.same("state " + actions, Check.look(x), Check.look(story(actions)));
        }
        RiddleDrive y = story(7);
        y.undo();
        y.undo();
        y.write(9, true);
        y.undo();
        Check.same("an action between", Check.look(y), Check.look(story(5)));
        y.undo();
        Check.same("and one more back", Check.look(y), Check.look(story(4)));
    }

    private static void undoCounts() {
        RiddleDrive x = story(7);
        for (int left = 6; left >= 0; left--) {
            Check.due("left", x.undo(), left);
        }
        x.write(0, true);
        Check.due("left", x.undo(), 0);
    }

    private static void undoRefuses() {
        Check.state(RiddleDrive::new, "undo of a new object", RiddleDrive::undo);
        Check.state(() -> Check.drive("K12k03q0205"), "undo behind load", RiddleDrive::undo);
        Check.state(ActionTest::allTakenBack, "undo of all and one more", RiddleDrive::undo);
        Check.state(() -> takenBack(14), "undo of 14 and one more", RiddleDrive::undo);
        Check.state(() -> takenBack(20), "undo of 14 of 20 and one more", RiddleDrive::undo);
    }

    private static RiddleDrive allTakenBack() {
        RiddleDrive x = Check.busy();
        for (int i = 0; i < 4; i++) {
            x.undo();
        }
        return x;
    }
}
