/** Promises 2 to 5: append, clearText, errorPosition, load. */
public final class TextTest {
    public static void main(String[] args) {
        appendCounts();
        appendRefuses();
        clearTextEmpties();
        errorPositionOfDrives();
        errorPositionOfOthers();
        errorPositionChangesNothing();
        loadMakesTheDrive();
        loadAsksQuestions();
        loadReplacesEverything();
        loadAgain();
        loadRefuses();
        Check.end("TextTest");
    }

    private static void appendCounts() {
        RiddleDrive x = new RiddleDrive();
        Check.due("append(0)", x.append(0), 1);
        Check.due("append(255)", x.append(255), 2);
        for (int n = 3; n <= 100; n++) {
            Check.due("append number " + n, x.append('K'), n);
        }
    }

    private static void appendRefuses() {
        RiddleDrive x = Check.withText("K1");
        Check.argument(x, "append(-1)", () -> x.append(-1));
        Check.argument(x, "append(256)", () -> x.append(256));
        Check.argument(x, "append(smallest)", () -> x.append(Integer.MIN_VALUE));
        Check.argument(x, "append(greatest)", () -> x.append(Integer.MAX_VALUE));
        Check.argument(x, "append('K' + 65536)", () -> x.append('K' + 65536));
        Check.due("append behind refused ones", x.append('2'), 3);
        Check.due("errorPosition behind refused ones", x.errorPosition(), RiddleDrive.NONE);
        for (int n = 4; n <= 100; n++) {
            x.append('w');
        }
        Check.state(x, "append to 100 characters", () -> x.append('w'));
        Check.argument(x, "append(256) to 100 characters", () -> x.append(256));
        Check.due("clearText of 100 characters", x.clearText(), 100);
    }

    private static void clearTextEmpties() {
        RiddleDrive x = new RiddleDrive();
        Check.due("clearText of nothing", x.clearText(), 0);
        Check.type(x, "K08k");
        Check.due("clearText of K08k", x.clearText(), 4);
        Check.due("errorPosition of an emptied text", x.errorPosition(), 0);
        Check.due("append to an emptied text", x.append('K'), 1);
        Check.due("errorPosition does not see the old text", x.errorPosition(), 1);
        x.write(3, true);
        x.ask(0, 4);
        String before = Check.look(x);
        x.clearText();
        Check.same("clearText leaves the drive", Check.look(x).substring(7), before.substring(7));
        Check.due("clearText is no action", x.undo(), 1);
    }

    private static void errorPositionOfDrives() {
        String[] drives = {
            "K08", "K09", "K10", "K39", "K40", "K08k00k07", "K40k39", "K16w1w8", "K16s0s4", "K16f0f9",
            "K16q0000", "K16q1515", "K16q0015", "K40q3939", "K40q0939", "K08q0707", "K12k00k00", "K12w3s2f1k03q0205",
            "K20q0919", "K20q1019", "K11k10",
        };
        for (String text : drives) {
            Check.due("errorPosition of " + text, Check.withText(text).errorPosition(), RiddleDrive.NONE);
        }
    }

    private static void errorPositionOfOthers() {
        error("", 0);
        error("k08", 0);
        error(" K08", 0);
        error("K", 1);
        error("K5", 1);
        error("K9", 1);
        error("Kx", 1);
        error("K0", 2);
        error("K07", 2);
        error("K41", 2);
        error("K4:", 2);
        error("K1/", 2);
        error("K08K", 3);
        error("K08 ", 3);
        error("K08x", 3);
        error("K08\u0000", 3);
        error("K08k", 4);
        error("K08k1", 4);
        error("K08k0", 5);
        error("K08k08", 5);
        error("K40k4", 4);
        error("K16k16", 5);
        error("K16k2", 4);
        error("K16w", 4);
        error("K16w0", 4);
        error("K16w9", 4);
        error("K16s5", 4);
        error("K16s-", 4);
        error("K16f", 4);
        error("K16fa", 4);
        error("K16f:", 4);
        error("K16f/", 4);
        error("K16s/", 4);
        error("K16w/", 4);
        error("K16k/", 4);
        error("K16k0/", 5);
        error("K16k0:", 5);
        error("K16q", 4);
        error("K16q2", 4);
        error("K16q1", 5);
        error("K16q16", 5);
        error("K16q05", 6);
        error("K16q052", 6);
        error("K16q0504", 7);
        error("K16q050", 7);
        error("K16q050:", 7);
        error("K16q100", 6);
        error("K16q1009", 6);
        error("K16q120", 6);
        error("K16q1211", 7);
        error("K16q1216", 7);
        error("K40q2919", 6);
        error("K40q2928", 7);
        error("K16k03w3s2f1q0205?", 17);
        error("K16k03w3s2f1q0205k1", 19);
    }

    private static void error(String text, int position) {
        Check.due("errorPosition of \"" + text + "\"", Check.withText(text).errorPosition(), position);
    }

    private static void errorPositionChangesNothing() {
        RiddleDrive x = Check.drive("K12k03q0205");
        String before = Check.look(x);
        x.clearText();
        Check.type(x, "K40k00s4w8q0039q");
        Check.due("errorPosition of the second text", x.errorPosition(), 16);
        Check.same("errorPosition leaves the state", Check.look(x).substring(8), before.substring(8));
    }

    private static void loadMakesTheDrive() {
        RiddleDrive x = Check.withText("K08");
        Check.due("load of K08", x.load(), 0);
        Check.same("K08", Check.look(x), "error -1 about 8 0 3 2 1 0 0 0 0 0 keys 00000000 known ???????? answers ");
        x = Check.withText("K10k00k09k04k04w5s3f7");
        Check.due("load of settings and keys", x.load(), 0);
        Check.same("settings and keys", Check.look(x),
            "error -1 about 10 3 5 3 7 0 0 0 0 0 keys 1000100001 known ?????????? answers ");
        x = Check.withText("K40k39w8w1");
        x.load();
        Check.due("places of K40", x.about(0), 40);
        Check.due("last key of K40", x.has(39), true);
        Check.due("the last setting counts", x.about(2), 1);
        Check.due("load keeps the text", x.clearText(), 10);
    }

    private static void loadAsksQuestions() {
        RiddleDrive x = Check.withText("K10k02k03q0001q0002q0203w2q0203f4q0009q0009");
        Check.due("two narrow questions are left out", x.load(), 2);
        Check.same("the others are asked", Check.answers(x), "0-2=-2:1 2-3=2:1 0-9=2:0");
        Check.due("paid", x.about(6), 8);
        Check.due("asked, a free one too", x.about(7), 4);
        Check.due("forgotten", x.about(8), 0);
        x = Check.withText("K10k02q0004q0509k03s2q0004s3q0004k03k04");
        Check.due("none is left out", x.load(), 0);
        Check.same("keys and a new secrecy make answers worthless", Check.answers(x), "");
        Check.due("they count as forgotten", x.about(8), 4);
        Check.due("they stay paid", x.about(6), 8);
    }

    private static void loadReplacesEverything() {
        RiddleDrive x = new RiddleDrive();
        x.write(5, true);
        x.set(0, 1);
        x.ask(4, 9);
        x.save(0);
        x.save(1);
        x.resize(30);
        Check.type(x, "K09q0008");
        Check.due("load", x.load(), 0);
        Check.same("nothing is left", Check.look(x),
            "error -1 about 9 0 3 2 1 1 3 1 0 0 keys 000000000 known ????????? answers 0-8=-2:3");
        Check.state(x, "undo behind load", x::undo);
        Check.state(x, "restore(0) behind load", () -> x.restore(0));
        Check.state(x, "restore(1) behind load", () -> x.restore(1));
        x.write(0, true);
        x.load();
        Check.due("load again", x.about(1), 0);
        Check.state(x, "load is no action", x::undo);
    }

    private static void loadAgain() {
        RiddleDrive x = Check.withText("K12k03w4q0002q0004k04q0006s4w1f9q0000");
        String first = "";
        for (int round = 0; round < 3; round++) {
            Check.due("left out each time", x.load(), 1);
            first = round == 0 ? Check.look(x) : first;
            Check.same("the same drive each time", Check.look(x), first);
        }
        x.clearText();
        Check.type(x, "K12");
        Check.due("load of K12", x.load(), 0);
        Check.same("nothing of the text before is left", Check.look(x),
            "error -1 about 12 0 3 2 1 0 0 0 0 0 keys 000000000000 known ???????????? answers ");
    }

    private static void loadRefuses() {
        RiddleDrive x = Check.drive("K12k03q0205");
        x.save(1);
        x.write(4, true);
        x.write(6, true);
        Check.type(x, "k12");
        Check.state(x, "load of a wrong place", x::load);
        x.clearText();
        Check.state(x, "load of no text", x::load);
        Check.type(x, "K40k00k01q0039k");
        Check.state(x, "load of a text that ends too soon", x::load);
        Check.due("the states are still remembered", x.undo(), 1);
        Check.due("the slot is still full", x.restore(1), 1);
    }
}
