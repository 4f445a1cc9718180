/** Text, and promises 2 to 5: append, clearText, errorPosition, load. */
public final class TextTest {
    public static void main(String[] args) {
        text();
        errors();
        append();
        clearText();
        errorPosition();
        load();
        Check.end("TextTest", "TEXT", "Promise 2", "Promise 3", "Promise 4", "Promise 5");
    }

    private static void error(String text, int position) {
        Check.due("errorPosition of \"" + text + "\"", Check.withText(text).errorPosition(), position);
    }

    private static String two(int v) {
        return "" + v / 10 + v % 10;
    }

    /** Behind this head one sign is put; only these are allowed, each other one is the error. */
    private static void onlyAllowed(String head, String allowed) {
        for (int c = 0; c <= 255; c++) {
            RiddleDrive x = Check.withText(head);
            x.append(c);
            boolean is = allowed.indexOf(c) >= 0;
            int due = !is ? head.length() : head.length() + 1;
            int got = x.errorPosition();
            Check.due("\"" + head + "\" and sign " + c, got == RiddleDrive.NONE ? head.length() + 1 : got, due);
        }
    }

    // ---- text

    private static void text() {
        String s = "TEXT";
        Check.sentence(s, "The object has a text buffer of at most 100 characters. ", TextTest::hundred);
        Check.sentence(s, "A drive is the letter K, ", TextTest::letterK);
        Check.sentence(s, "two digits for the number of places (08 to 40), ", TextTest::placesOfText);
        Check.sentence(s, "and then any number of commands: ", TextTest::anyNumberOfCommands);
        Check.sentence(s, "the letter k and two digits for a place: there is a key; ", TextTest::keyCommands);
        Check.sentence(s, "the letter w and a digit for the width (1 to 8); ", TextTest::widthCommands);
        Check.sentence(s, "the letter s and a digit for the secrecy (0 to 4); ", TextTest::secrecyCommands);
        Check.sentence(s, "the letter f and a digit for the fee; ", TextTest::feeCommands);
        Check.sentence(s, "the letter q, two digits for the first and two for the last place of a range ",
            TextTest::questionCommands);
        Check.sentence(s, "(not below the first): ", TextTest::rangesOfText);
        Check.sentence(s, "a question is asked ", TextTest::questionIsAsked);
        Check.sentence(s, "(if the range is too narrow, it is left out).", TextTest::narrowIsLeftOut);
        Check.sentence(s, "Commands are done one behind the other, ", TextTest::oneBehindTheOther);
        Check.sentence(s, "as by write(), set() and ask().", TextTest::asByMethods);
        Check.sentence(s, "There are no blanks.", TextTest::noBlanks);
    }

    private static void hundred() {
        RiddleDrive x = new RiddleDrive();
        for (int n = 1; n <= 100; n++) {
            Check.due("length", x.append('f'), n);
        }
        Check.state(() -> Check.withText("f".repeat(100)), "number 101", y -> y.append('f'));
    }

    private static void letterK() {
        onlyAllowed("", "K");
    }

    private static void placesOfText() {
        for (int places = 0; places <= 99; places++) {
            int due = places >= 8 && places <= 40 ? -1 : places >= 50 ? 1 : 2;
            error("K" + two(places), due);
            if (due == -1) {
                Check.due("places", Check.drive("K" + two(places)).about(0), places);
            }
        }
        onlyAllowed("K", "01234");
        onlyAllowed("K0", "89");
        onlyAllowed("K1", "0123456789");
        onlyAllowed("K3", "0123456789");
        onlyAllowed("K4", "0");
    }

    private static void anyNumberOfCommands() {
        error("K08", -1);
        onlyAllowed("K08", "kwsfq");
        onlyAllowed("K08k00", "kwsfq");
        onlyAllowed("K08w1", "kwsfq");
        onlyAllowed("K08s1", "kwsfq");
        onlyAllowed("K08f1", "kwsfq");
        onlyAllowed("K08q0007", "kwsfq");
        RiddleDrive x = Check.withText("K08" + "f1".repeat(46) + "f3k07");
        Check.due("100 characters", x.errorPosition(), -1);
        Check.due("loaded", x.load(), 0);
        Check.due("the last command but one", x.about(4), 3);
        Check.due("the last command", x.has(7), true);
        Check.due("they were 100", x.clearText(), 100);
    }

    private static void keyCommands() {
        for (int places : new int[] {8, 10, 11, 16, 21, 31, 39, 40}) {
            int tens = (places - 1) / 10;
            for (int i = 0; i <= 99; i++) {
                error("K" + two(places) + "k" + two(i), i < places ? -1 : i / 10 > tens ? 4 : 5);
            }
        }
        onlyAllowed("K08k", "0");
        onlyAllowed("K08k0", "01234567");
        onlyAllowed("K40k", "0123");
        onlyAllowed("K16k1", "012345");
        Check.same("first and last key", Check.keys(Check.drive("K08k00k07")), "10000001");
        Check.same("a key twice", Check.keys(Check.drive("K08k03k03")), "00010000");
        Check.due("the last key of 40", Check.drive("K40k39").has(39), true);
    }

    private static void widthCommands() {
        onlyAllowed("K16w", "12345678");
        for (int v = 1; v <= 8; v++) {
            Check.due("width", Check.drive("K16w" + v).about(2), v);
        }
        Check.due("the last one counts", Check.drive("K16w8w1").about(2), 1);
    }

    private static void secrecyCommands() {
        onlyAllowed("K16s", "01234");
        for (int v = 0; v <= 4; v++) {
            Check.due("secrecy", Check.drive("K16s" + v).about(3), v);
        }
        Check.due("the last one counts", Check.drive("K16s4s0").about(3), 0);
    }

    private static void feeCommands() {
        onlyAllowed("K16f", "0123456789");
        for (int v = 0; v <= 9; v++) {
            Check.due("fee", Check.drive("K16f" + v).about(4), v);
        }
        Check.due("the last one counts", Check.drive("K16f9f0").about(4), 0);
    }

    private static void questionCommands() {
        for (int places : new int[] {8, 10, 11, 16, 21, 31, 39, 40}) {
            int last = places - 1;
            for (int a = 0; a <= 99; a++) {
                int due = a < places ? -1 : a / 10 > last / 10 ? 4 : 5;
                String text = "K" + two(places) + "q" + two(a);
                error(text + two(last), due);
                error(text, due == -1 ? 6 : due);
            }
        }
        onlyAllowed("K08q", "0");
        onlyAllowed("K16q", "01");
        onlyAllowed("K16q1", "012345");
        onlyAllowed("K40q", "0123");
        RiddleDrive x = Check.drive("K40q0039q1523");
        Check.same("ranges", Check.answers(x), "0-39=-2:11 15-23=-2:3");
    }

    private static void rangesOfText() {
        for (int places : new int[] {8, 11, 16, 21, 31, 40}) {
            for (int a : new int[] {0, 5, 9, 10, 15, 19, 20, 39}) {
                for (int b = 0; b <= 99 && a < places; b++) {
                    boolean tensAllowed = b / 10 >= a / 10 && b / 10 <= (places - 1) / 10;
                    int due = b >= a && b < places ? -1 : tensAllowed ? 7 : 6;
                    error("K" + two(places) + "q" + two(a) + two(b), due);
                }
            }
        }
        onlyAllowed("K16q05", "01");
        onlyAllowed("K16q050", "56789");
        onlyAllowed("K16q051", "012345");
        onlyAllowed("K16q10", "1");
        onlyAllowed("K16q131", "345");
        onlyAllowed("K40q19", "123");
        onlyAllowed("K40q191", "9");
        Check.due("one place", Check.drive("K16w1s0q1515").answer(0, 2), 0);
    }

    private static void questionIsAsked() {
        RiddleDrive x = Check.drive("K10k02k03w2f4q0001q0203q0009q0009");
        Check.same("answers", Check.answers(x), "0-1=-2:4 2-3=2:4 0-9=2:0");
        Check.due("paid", x.about(6), 14);
        Check.due("asked, a free one too", x.about(7), 4);
        Check.due("forgotten", x.about(8), 0);
    }

    private static void narrowIsLeftOut() {
        for (int width = 1; width <= 8; width++) {
            RiddleDrive x = Check.withText("K16w" + width + "q0404q0405q0406q0407q0408q0409q0410q0411");
            Check.due("allowed, width " + width, x.errorPosition(), -1);
            Check.due("left out, width " + width, x.load(), width - 1);
            Check.due("asked, width " + width, x.about(7), 9 - width);
            Check.due("kept, width " + width, x.about(5), 9 - width);
        }
        Check.same("nothing is paid for it", Check.look(Check.drive("K08q0001")), Check.look(Check.drive("K08")));
    }

    private static void oneBehindTheOther() {
        RiddleDrive x = Check.withText("K10q0001w2q0001w3q0001f9q0002f0q0003");
        Check.due("left out by the width that there was", x.load(), 2);
        Check.same("paid by the fee that there was", Check.answers(x), "0-1=-2:1 0-2=-2:9 0-3=-2:1");
        x = Check.drive("K10k02k03q0104s3q0104s0q0004k04q0005");
        Check.same("told by the keys and the secrecy that there were", Check.answers(x), "0-5=3:2");
        Check.due("asked", x.about(7), 4);
        Check.due("forgotten", x.about(8), 3);
    }

    private static void asByMethods() {
        RiddleDrive x = Check.drive("K10k02q0004q0509k03s2q0004s3q0004k03k04");
        Check.same("keys and a new secrecy make answers worthless", Check.answers(x), "");
        Check.due("they count as forgotten", x.about(8), 4);
        Check.due("they stay paid", x.about(6), 8);
        RiddleDrive y = Check.drive("K10q0004q0509k07s2k07");
        Check.same("the same secrecy and the same key forget none", Check.answers(y), "0-4=-2:2");
        RiddleDrive z = Check.drive("K16w1f0q0000q0101q0202q0303q0404q0505q0606q0707q0808q0909q1010q1111q0000q1212");
        Check.due("12 are kept", z.about(5), 12);
        Check.due("the oldest one is forgotten", z.answer(0, 0), 1);
        Check.due("one is forgotten", z.about(8), 1);
        Check.due("14 are asked", z.about(7), 14);
    }

    private static void noBlanks() {
        error(" K08", 0);
        error("K 08", 1);
        error("K0 8", 2);
        error("K08 ", 3);
        error("K08 k00", 3);
        error("K08k 00", 4);
        error("K08k0 0", 5);
        error("K08k00 ", 6);
        error("K08w 1", 4);
        error("K08q 0007", 4);
        error("K08q00 07", 6);
        error("K08q0007 ", 8);
        error("K08\n", 3);
        error("K08\t", 3);
        error("K08\u0000", 3);
    }

    // ---- the error position

    private static void errors() {
        String s = "TEXT";
        Check.sentence(s, "The text is read from left to right.", TextTest::fromTheLeft);
        Check.sentence(s, "The error position is the index of the first character that these rules do not allow at its "
            + "place ", TextTest::firstCharacter);
        Check.sentence(s, "(a digit is not allowed if no number that is allowed begins with it and those before it); ",
            TextTest::noNumberBegins);
        Check.sentence(s, "if the text ends too soon, it is the length of the text.", TextTest::endsTooSoon);
    }

    private static void fromTheLeft() {
        error("K08K08", 3);
        error("80K", 0);
        error("K08k07k08k09", 8);
        error("K08w9s9f", 4);
        error("K08q0700x", 7);
        error("K12k11w3s2f1q0205k12w9", 19);
    }

    private static void firstCharacter() {
        error("k08", 0);
        error("Kx", 1);
        error("K4:", 2);
        error("K1/", 2);
        error("K08K", 3);
        error("K08x", 3);
        error("K08W1", 3);
        error("K16s-", 4);
        error("K16fa", 4);
        error("K16k0:", 5);
        error("K16k-1", 4);
        error("K16q050:", 7);
        error("K16q0505?", 8);
        error("K16q05055", 8);
        error("K16k03w3s2f1q0205?", 17);
    }

    private static void noNumberBegins() {
        error("K5", 1);
        error("K9", 1);
        error("K07", 2);
        error("K41", 2);
        error("K16k2", 4);
        error("K16k16", 5);
        error("K08k1", 4);
        error("K08k08", 5);
        error("K16w0", 4);
        error("K16w9", 4);
        error("K16s5", 4);
        error("K16q2", 4);
        error("K16q16", 5);
        error("K16q052", 6);
        error("K16q0504", 7);
        error("K16q1009", 6);
        error("K16q1211", 7);
        error("K16q1216", 7);
        error("K40q2919", 6);
        error("K40q2928", 7);
        error("K40q3940", 6);
        // the digit that is not allowed could begin the next number
        error("K31q3130", 5);
        error("K31q2131", 7);
        error("K21k21", 5);
    }

    private static void endsTooSoon() {
        error("", 0);
        error("K", 1);
        error("K0", 2);
        error("K4", 2);
        error("K08k", 4);
        error("K08k0", 5);
        error("K16w", 4);
        error("K16s", 4);
        error("K16f", 4);
        error("K16q", 4);
        error("K16q1", 5);
        error("K16q05", 6);
        error("K16q050", 7);
        error("K16k03w3s2f1q0205k1", 19);
        error("K08" + "f1".repeat(48) + "k", 100);
        error("K08" + "f1".repeat(47) + "q00", 100);
    }

    // ---- promise 2

    private static void append() {
        String s = "Promise 2";
        Check.sentence(s, "Appends a character to the text buffer. ", TextTest::appends);
        Check.sentence(s, "c: character code, 0 to 255", TextTest::appendCodes);
        Check.sentence(s, "Returns the new length of the text.", TextTest::appendLength);
        Check.sentence(s, "Throws IllegalArgumentException if c is out of range", TextTest::appendArgument);
        Check.sentence(s, "Throws IllegalStateException if the text already has 100 characters", TextTest::appendFull);
    }

    private static void appends() {
        RiddleDrive x = Check.withText("K12k0");
        Check.due("before", x.errorPosition(), 5);
        x.append('7');
        x.append('f');
        x.append('8');
        x.load();
        Check.due("the key", x.has(7), true);
        Check.due("the fee", x.about(4), 8);
        Check.due("no action", new RiddleDrive().append('K'), 1);
        Check.state(() -> Check.withText("K"), "undo behind append", RiddleDrive::undo);
    }

    private static void appendCodes() {
        for (int c = 0; c <= 255; c++) {
            Check.due("append " + c, new RiddleDrive().append(c), 1);
            RiddleDrive x = Check.withText("K08");
            x.append(c);
            Check.due("errorPosition behind " + c, x.errorPosition(), "kwsfq".indexOf(c) >= 0 ? 4 : 3);
        }
    }

    private static void appendLength() {
        RiddleDrive x = new RiddleDrive();
        for (int n = 1; n <= 100; n++) {
            Check.due("length", x.append(n), n);
        }
        x.clearText();
        Check.due("behind clearText", x.append('K'), 1);
    }

    private static void appendArgument() {
        int[] codes = {-1, 256, 257, 'K' + 256, 'K' + 65536, 65535, Integer.MIN_VALUE, Integer.MAX_VALUE};
        for (int c : codes) {
            Check.argument(Check::busy, "append " + c, x -> x.append(c));
            Check.argument(RiddleDrive::new, "append to nothing " + c, x -> x.append(c));
            Check.argument(TextTest::fullDrive, "append to 100 characters " + c, x -> x.append(c));
        }
    }

    private static RiddleDrive fullDrive() {
        return Check.withText("K08" + "f1".repeat(46) + "f3k07");
    }

    private static void appendFull() {
        for (int c : new int[] {'k', 0, 255}) {
            Check.state(TextTest::fullDrive, "append to 100 characters " + c, x -> x.append(c));
            Check.passes(() -> Check.withText("f".repeat(99)), "append to 99 characters", x -> x.append(c));
        }
    }

    // ---- promise 3

    private static void clearText() {
        String s = "Promise 3";
        Check.sentence(s, "Empties the text buffer.", TextTest::clearTextEmpties);
        Check.sentence(s, "Returns the previous length of the text.", TextTest::clearTextLength);
    }

    private static void clearTextEmpties() {
        RiddleDrive x = Check.withText("K08k");
        x.clearText();
        Check.due("errorPosition of nothing", x.errorPosition(), 0);
        x.append('K');
        Check.due("the old text does not come back", x.errorPosition(), 1);
        RiddleDrive y = Check.busy();
        y.clearText();
        Check.same("the state stays", Check.look(y), Check.look(Check.busy()));
        Check.due("no action", y.undo(), 3);
        Check.due("the slots stay", y.restore(0), 2);
    }

    private static void clearTextLength() {
        for (int length : new int[] {0, 1, 2, 57, 99, 100}) {
            RiddleDrive x = Check.withText("q".repeat(length));
            Check.due("length", x.clearText(), length);
            Check.due("length then", x.clearText(), 0);
        }
    }

    // ---- promise 4

    private static void errorPosition() {
        String s = "Promise 4";
        Check.sentence(s, "Checks the text.", TextTest::errorPositionChecks);
        Check.sentence(s, "Returns the error position of the text; ", TextTest::errorPositionOfOthers);
        Check.sentence(s, "NONE if it is a drive.", TextTest::errorPositionOfDrives);
    }

    private static void errorPositionChecks() {
        Check.unchanged(Check::busy, "errorPosition of a drive", RiddleDrive::errorPosition);
        Check.unchanged(() -> with(Check.busy(), "q"), "errorPosition of no drive", RiddleDrive::errorPosition);
        RiddleDrive x = Check.withText("K08w");
        Check.due("the first time", x.errorPosition(), 4);
        Check.due("the second time", x.errorPosition(), 4);
        x.append('8');
        Check.due("behind one sign more", x.errorPosition(), -1);
    }

    private static RiddleDrive with(RiddleDrive x, String more) {
        Check.type(x, more);
        return x;
    }

    private static void errorPositionOfOthers() {
        error("", 0);
        error("x", 0);
        error("K08k08", 5);
        error("K08" + "f1".repeat(48) + "f", 100);
        error("K08" + "f1".repeat(48) + "?", 99);
    }

    private static void errorPositionOfDrives() {
        String[] drives = {
            "K08", "K09", "K10", "K39", "K40", "K08k00k07", "K40k39", "K16w1w8", "K16s0s4", "K16f0f9",
            "K16q0000", "K16q1515", "K16q0015", "K40q3939", "K40q0939", "K08q0707", "K12k00k00", "K12w3s2f1k03q0205",
            "K20q0919", "K20q1019", "K11k10", "K08" + "f1".repeat(48), "K08k00" + "f1".repeat(47),
        };
        for (String text : drives) {
            error(text, -1);
        }
    }

    // ---- promise 5

    private static void load() {
        String s = "Promise 5";
        Check.sentence(s, "Replaces everything by the drive of the text ", TextTest::loadReplaces);
        Check.sentence(s, "(width 3, secrecy 2 and fee 1 at first, nothing paid).", TextTest::loadAtFirst);
        Check.sentence(s, "Forgets all remembered states ", TextTest::loadForgetsStates);
        Check.sentence(s, "and empties both save slots.", TextTest::loadEmptiesSlots);
        Check.sentence(s, "Keeps the text.", TextTest::loadKeepsTheText);
        Check.sentence(s, "Returns the number of questions that are left out.", TextTest::loadCounts);
        Check.sentence(s, "Throws IllegalStateException if the text is not a drive", TextTest::loadRefuses);
    }

    private static void loadReplaces() {
        RiddleDrive x = Check.busy();
        x.clearText();
        Check.type(x, "K09q0008k00s0w5f0q0108");
        x.load();
        Check.same("nothing is left", Check.look(x),
            "about 9 1 5 0 0 1 5 2 1 8 keys 100000000 known ?00000000 answers 1-8=0:2");
        RiddleDrive y = Check.busy();
        y.resize(40);
        y.load();
        Check.same("as on a new object", Check.look(y), Check.look(Check.drive("K12k03k04q0205q0408w5")));
    }

    private static void loadAtFirst() {
        RiddleDrive x = Check.drive("K08w8s4f9q0007");
        x.clearText();
        Check.type(x, "K10");
        x.load();
        Check.same("nothing but places", Check.look(x),
            "about 10 0 3 2 1 0 0 0 0 0 keys 0000000000 known ?????????? answers ");
    }

    private static void loadForgetsStates() {
        Check.state(() -> loaded(Check.busy()), "undo", RiddleDrive::undo);
        RiddleDrive x = loaded(Check.busy());
        x.write(0, true);
        Check.due("an action behind it", x.undo(), 0);
        Check.state(() -> loaded(fourteenActions()), "undo behind 14 actions and load", RiddleDrive::undo);
    }

    private static RiddleDrive fourteenActions() {
        RiddleDrive x = Check.withText("K08");
        for (int i = 0; i < 14; i++) {
            x.write(i, true);
        }
        return x;
    }

    private static RiddleDrive loaded(RiddleDrive x) {
        x.load();
        return x;
    }

    private static void loadEmptiesSlots() {
        Check.state(() -> loaded(Check.busy()), "restore(0)", x -> x.restore(0));
        Check.state(() -> loaded(Check.busy()), "restore(1)", x -> x.restore(1));
        RiddleDrive x = loaded(Check.busy());
        x.save(1);
        Check.due("saved behind load", x.restore(1), 2);
    }

    private static void loadKeepsTheText() {
        RiddleDrive x = Check.withText("K12k03w4q0002q0004k04q0006s4w1f9q0000");
        x.load();
        String first = Check.look(x);
        x.write(0, true);
        x.load();
        Check.same("the same drive again", Check.look(x), first);
        Check.due("the text goes on", x.append('w'), 38);
        Check.due("the length", x.clearText(), 38);
    }

    private static void loadCounts() {
        Check.due("no question", Check.withText("K08k03").load(), 0);
        Check.due("none left out", Check.withText("K08q0002").load(), 0);
        Check.due("one left out", Check.withText("K08q0001").load(), 1);
        Check.due("some left out", Check.withText("K08q0001q0002q0202w2q0001q0303w1q0000").load(), 3);
        Check.due("as many as there can be", Check.withText("K08" + "q0000".repeat(19)).load(), 19);
        RiddleDrive x = Check.withText("K08q0001");
        x.load();
        Check.due("counted anew", x.load(), 1);
    }

    private static void loadRefuses() {
        Check.state(RiddleDrive::new, "load of no text", RiddleDrive::load);
        for (String more : new String[] {"k", "k1", "K", " ", "q0504", "q050", "w9", "\u0000"}) {
            Check.state(() -> with(Check.busy(), more), "load with " + more, RiddleDrive::load);
        }
        for (String text : new String[] {"K07", "K41", "k08", "K8", "K", "K40k00k01q0039k", "K08k08"}) {
            Check.state(() -> typed(text), "load of " + text, RiddleDrive::load);
        }
    }

    private static RiddleDrive typed(String text) {
        RiddleDrive x = Check.busy();
        x.clearText();
        Check.type(x, text);
        return x;
    }
}
