/** Promises 13 to 18: write, set, ask, forget, resize, undo. */
public final class ActionTest {
    public static void main(String[] args) {
        writeForgets();
        writeRefuses();
        setChanges();
        setSecrecyForgets();
        setRefuses();
        askTells();
        askPays();
        askPushesOut();
        askTakesThePlace();
        askRefuses();
        forgetDrops();
        resizeCuts();
        resizeRefuses();
        undoTakesBack();
        undoRemembersFourteen();
        everyCallIsAnAction();
        Check.end("ActionTest");
    }

    private static void writeForgets() {
        RiddleDrive x = Check.drive("K16k03q0004q0307q0408q0002q0812");
        Check.due("a key that is there", x.write(3, true), 0);
        Check.due("no key that is there", x.write(4, false), 0);
        Check.due("nothing is forgotten by them", x.about(5), 5);
        Check.due("a new key at 4", x.write(4, true), 3);
        Check.same("the answers that stay", Check.answers(x), "0-2=-2:1 8-12=-2:2");
        Check.same("keys", Check.keys(x), "0001100000000000");
        Check.due("a key removed at 3", x.write(3, false), 0);
        Check.same("keys", Check.keys(x), "0000100000000000");
        Check.due("at the last place of a range", x.write(2, true), 1);
        Check.due("at the first place of a range", x.write(8, true), 1);
        Check.due("forgotten", x.about(8), 5);
        Check.due("the last place of all", x.write(15, true), 0);
        Check.due("has(15)", x.has(15), true);
        RiddleDrive y = Check.drive("K40w1s0");
        for (int i = 0; i < 12; i++) {
            y.ask(i, 39);
        }
        Check.due("all 12", y.write(39, true), 12);
        Check.due("none is left", y.about(5), 0);
    }

    private static void writeRefuses() {
        RiddleDrive x = Check.drive("K12k03q0205");
        for (int i : new int[] {-1, 12, 13, 64, 67, Integer.MIN_VALUE, Integer.MAX_VALUE}) {
            Check.outside(x, "write " + i, () -> x.write(i, true));
            Check.outside(x, "write " + i, () -> x.write(i, false));
        }
        Check.state(x, "a refused write is no action", x::undo);
    }

    private static void setChanges() {
        RiddleDrive x = Check.drive("K16k03q0004q0307");
        Check.due("width", x.set(0, 8), 3);
        Check.due("width", x.set(0, 1), 8);
        Check.due("width", x.about(2), 1);
        Check.due("fee", x.set(2, 9), 1);
        Check.due("fee", x.set(2, 0), 9);
        Check.due("fee", x.about(4), 0);
        Check.due("width and fee forget nothing", x.about(5), 2);
        Check.due("the secrecy is as before", x.about(3), 2);
    }

    private static void setSecrecyForgets() {
        RiddleDrive x = Check.drive("K16k03q0004q0307");
        Check.due("the same secrecy", x.set(1, 2), 2);
        Check.due("the same secrecy forgets nothing", x.about(5), 2);
        Check.due("another secrecy", x.set(1, 4), 2);
        Check.due("another secrecy forgets all", x.about(5), 0);
        Check.due("they count as forgotten", x.about(8), 2);
        Check.due("secrecy", x.set(1, 0), 4);
        Check.due("secrecy", x.about(3), 0);
    }

    private static void setRefuses() {
        RiddleDrive x = Check.drive("K12k03q0205");
        int[][] wrong = {
            {0, 0}, {0, 9}, {0, -1}, {1, -1}, {1, 5}, {2, -1}, {2, 10}, {-1, 1}, {3, 1},
            {Integer.MAX_VALUE, 1}, {0, Integer.MIN_VALUE}, {1, Integer.MAX_VALUE},
        };
        for (int[] w : wrong) {
            Check.argument(x, "set " + w[0] + " " + w[1], () -> x.set(w[0], w[1]));
        }
        Check.state(x, "a refused set is no action", x::undo);
    }

    private static void askTells() {
        RiddleDrive x = Check.drive("K40s2k00k01k20k38k39");
        Check.due("two keys", x.ask(0, 2), 2);
        Check.due("one key", x.ask(1, 3), RiddleDrive.FEW);
        Check.due("no key", x.ask(2, 19), RiddleDrive.FEW);
        Check.due("all keys", x.ask(0, 39), 5);
        Check.due("the last ones", x.ask(37, 39), 2);
        x.set(1, 0);
        Check.due("secrecy 0 tells 0", x.ask(2, 19), 0);
        x.set(1, 4);
        Check.due("secrecy 4 keeps silent about 3", x.ask(0, 37), RiddleDrive.FEW);
        Check.due("secrecy 4 tells 4", x.ask(0, 38), 4);
        x.set(0, 1);
        Check.due("one place", x.ask(39, 39), RiddleDrive.FEW);
    }

    private static void askPays() {
        RiddleDrive x = Check.drive("K16w1f0");
        int[][] due = {{0, 0, 0}, {0, 2, 0}, {0, 3, 1}, {0, 6, 2}, {0, 7, 4}, {0, 15, 8}, {0, 7, 8}, {8, 15, 10}};
        for (int[] d : due) {
            x.ask(d[0], d[1]);
            Check.due("paid behind " + d[0] + " " + d[1], x.about(6), d[2]);
        }
        x.set(2, 9);
        x.ask(0, 15);
        Check.due("free, whatever the fee", x.about(6), 10);
        x.ask(1, 8);
        Check.due("fee 9 and 2", x.about(6), 21);
        x.forget(0);
        x.ask(0, 0);
        Check.due("a forgotten answer is paid again", x.about(6), 30);
        Check.due("asked", x.about(7), 11);
    }

    private static void askPushesOut() {
        RiddleDrive x = Check.drive("K40w1f0");
        for (int i = 0; i < 12; i++) {
            x.ask(i, i + 1);
        }
        Check.due("12 answers", x.about(5), 12);
        Check.due("nothing is forgotten", x.about(8), 0);
        x.ask(0, 1);
        Check.due("the oldest one is asked again", x.about(8), 0);
        x.ask(30, 39);
        Check.due("12 answers again", x.about(5), 12);
        Check.due("the oldest one is forgotten", x.about(8), 1);
        Check.due("the second one is the oldest", x.answer(0, 0), 1);
        Check.due("the new one is the last", x.answer(11, 0), 30);
        Check.due("it is whole", x.answer(11, 1), 39);
        Check.due("the one before it", x.answer(10, 0), 11);
    }

    private static void askTakesThePlace() {
        RiddleDrive x = Check.drive("K16k03q0004q0307q0408");
        Check.same("before", Check.answers(x), "0-4=-2:2 3-7=-2:2 4-8=-2:2");
        Check.due("the same range", x.ask(3, 7), RiddleDrive.FEW);
        Check.same("behind", Check.answers(x), "0-4=-2:2 3-7=-2:0 4-8=-2:2");
        Check.due("replaced, not forgotten", x.about(8), 0);
        Check.due("asked", x.about(7), 4);
    }

    private static void askRefuses() {
        RiddleDrive x = Check.drive("K12k03q0205");
        Check.outside(x, "ask(-1, 3)", () -> x.ask(-1, 3));
        Check.outside(x, "ask(0, 12)", () -> x.ask(0, 12));
        Check.outside(x, "ask(12, 3)", () -> x.ask(12, 3));
        Check.outside(x, "ask(3, -1)", () -> x.ask(3, -1));
        Check.outside(x, "ask(smallest, greatest)", () -> x.ask(Integer.MIN_VALUE, Integer.MAX_VALUE));
        Check.argument(x, "ask(5, 4)", () -> x.ask(5, 4));
        Check.argument(x, "ask(11, 0)", () -> x.ask(11, 0));
        Check.state(x, "ask(5, 6)", () -> x.ask(5, 6));
        Check.state(x, "ask(5, 5)", () -> x.ask(5, 5));
        Check.state(x, "a refused ask is no action", x::undo);
        x.set(0, 5);
        Check.state(x, "an answer about a range that is too narrow now", () -> x.ask(2, 5));
        Check.due("5 places", x.ask(2, 6), RiddleDrive.FEW);
    }

    private static void forgetDrops() {
        RiddleDrive x = Check.drive("K16k03q0004q0307q0408q0002");
        Check.due("forget(1)", x.forget(1), 3);
        Check.same("the others stay in order", Check.answers(x), "0-4=-2:2 4-8=-2:2 0-2=-2:1");
        Check.due("forget the last", x.forget(2), 2);
        Check.same("the others stay in order", Check.answers(x), "0-4=-2:2 4-8=-2:2");
        Check.due("forget the first", x.forget(0), 1);
        Check.same("the other stays", Check.answers(x), "4-8=-2:2");
        Check.due("forgotten", x.about(8), 3);
        Check.due("still paid", x.about(6), 7);
        Check.outside(x, "forget(1)", () -> x.forget(1));
        Check.outside(x, "forget(-1)", () -> x.forget(-1));
        Check.outside(x, "forget(greatest)", () -> x.forget(Integer.MAX_VALUE));
        Check.due("forget all", x.forget(0), 0);
        Check.outside(x, "forget(0) of none", () -> x.forget(0));
        Check.due("four actions", x.undo(), 3);
    }

    private static void resizeCuts() {
        RiddleDrive x = Check.drive("K16w4s1f3k00k07k08k15q0007");
        Check.due("40 places", x.resize(40), 4);
        Check.same("40 places", Check.look(x), "error -1 about 40 4 4 1 3 0 5 1 1 0 keys "
            + "1000000110000001000000000000000000000000 known ???????????????????????????????????????? answers ");
        x.write(39, true);
        Check.due("39 places", x.resize(39), 4);
        Check.due("8 places", x.resize(8), 2);
        Check.due("the keys beyond are gone", x.resize(16), 2);
        Check.same("keys", Check.keys(x), "1000000100000000");
        x.ask(0, 7);
        Check.due("the same number", x.resize(16), 2);
        Check.due("forgets all answers, too", x.about(5), 0);
        Check.due("forgotten", x.about(8), 2);
    }

    private static void resizeRefuses() {
        RiddleDrive x = Check.drive("K12k03q0205");
        for (int places : new int[] {7, 41, 0, -8, Integer.MIN_VALUE, Integer.MAX_VALUE}) {
            Check.argument(x, "resize " + places, () -> x.resize(places));
        }
        Check.state(x, "a refused resize is no action", x::undo);
    }

    private static void undoTakesBack() {
        RiddleDrive x = Check.drive("K12k03q0205");
        String[] before = new String[7];
        before[0] = Check.look(x);
        x.ask(0, 11);
        before[1] = Check.look(x);
        x.write(2, true);
        before[2] = Check.look(x);
        x.set(0, 1);
        before[3] = Check.look(x);
        x.set(1, 0);
        before[4] = Check.look(x);
        x.ask(2, 2);
        before[5] = Check.look(x);
        x.forget(0);
        before[6] = Check.look(x);
        x.resize(30);
        for (int left = 6; left >= 0; left--) {
            Check.due("undo", x.undo(), left);
            Check.same("state " + left, Check.look(x), before[left]);
        }
        Check.state(x, "undo of nothing", x::undo);
        x.write(0, true);
        Check.due("undo behind that", x.undo(), 0);
        Check.same("undo is no action itself", Check.look(x), before[0]);
    }

    private static void undoRemembersFourteen() {
        RiddleDrive x = Check.drive("K40");
        for (int i = 0; i < 20; i++) {
            x.write(i, true);
        }
        for (int left = 13; left >= 0; left--) {
            Check.due("undo", x.undo(), left);
            Check.due("keys", x.about(1), left + 6);
        }
        Check.state(x, "the oldest ones are forgotten", x::undo);
        for (int i = 20; i < 33; i++) {
            x.write(i, true);
        }
        Check.due("13 are remembered", x.undo(), 12);
        x.write(38, true);
        x.write(39, true);
        Check.due("14 are remembered", x.undo(), 13);
        x.write(39, true);
        x.write(37, true);
        Check.due("14 are remembered, not 15", x.undo(), 13);
    }

    private static void everyCallIsAnAction() {
        RiddleDrive x = Check.drive("K16k03");
        x.write(3, true);
        x.set(0, 3);
        x.set(1, 2);
        x.resize(16);
        x.ask(0, 7);
        x.ask(0, 7);
        x.forget(0);
        x.least(0, 3);
        x.worst(0, 3);
        x.leastWorth();
        x.runScript(1, 20710);
        x.simulate(1, 5);
        x.save(0);
        x.append('K');
        x.clearText();
        Check.due("seven actions, though not all change a thing", x.undo(), 6);
    }
}
