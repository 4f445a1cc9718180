/** What the tests share: sentences of the document, answers that are due, refused calls, and looks at a drive. */
final class Check {
    /** Makes the same drive each time, by the same calls. */
    interface Make {
        RiddleDrive drive();
    }

    interface Call {
        void on(RiddleDrive x);
    }

    private static final int MOST_REMEMBERED = 14;

    private static int sentences = 0;
    private static int right = 0;
    private static int wrong = 0;
    private static String place = "";

    private Check() {
    }

    /** Tests one sentence of the document; what is wrong in it is told with its section and its words. */
    static void sentence(String section, String words, Runnable test) {
        place = section + ", \"" + words + "\": ";
        sentences++;
        int before = right + wrong;
        try {
            test.run();
        } catch (RuntimeException e) {
            same("the test ends with", e.toString(), "no exception");
        }
        due("something is tested", right + wrong > before, true);
        due("the document says so", Doc.quote(section, words), true);
        place = "";
    }

    static void due(String what, long got, long want) {
        same(what, Long.toString(got), Long.toString(want));
    }

    static void due(String what, boolean got, boolean want) {
        same(what, Boolean.toString(got), Boolean.toString(want));
    }

    static void same(String what, String got, String want) {
        if (got.equals(want)) {
            right++;
        } else {
            wrong++;
            System.out.println(place + what + ": answered " + got + ", due is " + want);
        }
    }

    // ---- refused calls, and calls that change nothing

    static void outside(Make make, String what, Call call) {
        refused(make, what, IndexOutOfBoundsException.class, call);
    }

    static void argument(Make make, String what, Call call) {
        refused(make, what, IllegalArgumentException.class, call);
    }

    static void state(Make make, String what, Call call) {
        refused(make, what, IllegalStateException.class, call);
    }

    /** The call must throw just this exception, and leave the drive as it is without the call. */
    static void refused(Make make, String what, Class<? extends RuntimeException> want, Call call) {
        same(what + " throws", thrown(make.drive(), call), want.getSimpleName());
        unchanged(make, what, call);
    }

    static void passes(Make make, String what, Call call) {
        same(what + " throws", thrown(make.drive(), call), "nothing");
    }

    private static String thrown(RiddleDrive x, Call call) {
        try {
            call.on(x);
            return "nothing";
        } catch (RuntimeException e) {
            return e.getClass().getSimpleName();
        }
    }

    static void unchanged(Make make, String what, Call call) {
        same(what + " changes nothing", whole(make, call), whole(make, x -> { }));
    }

    /** All that there is behind a call: state, remembered states, slots and text, each looked at on a new drive. */
    private static String whole(Make make, Call call) {
        StringBuilder s = new StringBuilder();
        s.append(look(behind(make, call)));
        for (int n = 1; n <= MOST_REMEMBERED + 1; n++) {
            RiddleDrive x = behind(make, call);
            int left = undo(x, n);
            if (left < 0) {
                break;
            }
            s.append("\nundo ").append(n).append(" leaves ").append(left).append(": ").append(look(x));
        }
        for (int slot = 0; slot <= 1; slot++) {
            int number = slot;
            RiddleDrive x = behind(make, call);
            String thrown = thrown(x, y -> y.restore(number));
            s.append("\nrestore ").append(slot).append(" throws ").append(thrown).append(": ").append(look(x));
        }
        RiddleDrive x = behind(make, call);
        s.append("\nerror ").append(x.errorPosition()).append(" load throws ").append(thrown(x, RiddleDrive::load));
        return s.append(": ").append(look(x)).append(" text ").append(x.clearText()).toString();
    }

    private static RiddleDrive behind(Make make, Call call) {
        RiddleDrive x = make.drive();
        thrown(x, call);
        return x;
    }

    /** Undoes so many times; how many states are left, -1 if one undo is refused. */
    private static int undo(RiddleDrive x, int times) {
        int left = 0;
        for (int i = 0; i < times; i++) {
            try {
                left = x.undo();
            } catch (IllegalStateException e) {
                return -1;
            }
        }
        return left;
    }

    // ---- drives

    /** A new object in whose text buffer this text stands. */
    static RiddleDrive withText(String text) {
        RiddleDrive x = new RiddleDrive();
        type(x, text);
        return x;
    }

    static void type(RiddleDrive x, String text) {
        for (int i = 0; i < text.length(); i++) {
            x.append(text.charAt(i));
        }
    }

    /** A new object that has loaded this text. */
    static RiddleDrive drive(String text) {
        RiddleDrive x = withText(text);
        x.load();
        return x;
    }

    /**
     * A drive of 12 places with something everywhere: keys at 3, 4 and 9, answers about 4 to 8 and 0 to 11, four
     * remembered states, another state in each slot, and a text that is another drive.
     */
    static RiddleDrive busy() {
        RiddleDrive x = drive("K12k03k04q0205q0408");
        x.save(0);
        x.write(9, true);
        x.ask(0, 11);
        x.save(1);
        x.set(2, 4);
        x.forget(0);
        type(x, "w5");
        return x;
    }

    /**
     * A drive of 40 places with all that can be kept: 12 answers, 14 remembered states, another state in each slot, and
     * a text of 100 characters that is another drive.
     */
    static RiddleDrive crowded() {
        RiddleDrive x = drive("K40w1f0k39" + "f1".repeat(45));
        for (int i = 0; i < 12; i++) {
            x.ask(i, i + 1);
        }
        x.write(20, true);
        x.save(0);
        x.write(21, true);
        x.save(1);
        x.write(22, true);
        x.set(2, 5);
        return x;
    }

    // ---- looks

    static String look(RiddleDrive x) {
        StringBuilder s = new StringBuilder("about");
        for (int what = 0; what <= 9; what++) {
            s.append(' ').append(x.about(what));
        }
        s.append(" keys ").append(keys(x)).append(" known ");
        int places = x.about(0);
        for (int i = 0; i < places; i++) {
            int known = x.known(i);
            s.append(known == RiddleDrive.NONE ? "?" : "" + known);
        }
        return s.append(" answers ").append(answers(x)).toString();
    }

    /** The answers as first-last=told:paid. */
    static String answers(RiddleDrive x) {
        StringBuilder s = new StringBuilder();
        int answers = x.about(5);
        for (int i = 0; i < answers; i++) {
            s.append(i > 0 ? " " : "");
            s.append(x.answer(i, 0)).append('-').append(x.answer(i, 1));
            s.append('=').append(x.answer(i, 2)).append(':').append(x.answer(i, 3));
        }
        return s.toString();
    }

    static String keys(RiddleDrive x) {
        StringBuilder s = new StringBuilder();
        int places = x.about(0);
        for (int i = 0; i < places; i++) {
            s.append(x.has(i) ? '1' : '0');
        }
        return s.toString();
    }

    // ---- the end

    /** Ends the tests of a file; each word of these sections of the document must have been quoted by one of them. */
    static void end(String name, String... sections) {
        for (String section : sections) {
            same("words of " + section + " that no test quotes", Doc.unquoted(section), "");
            due("there is a section " + section, Doc.isThere() && Doc.section(section).isEmpty(), false);
        }
        System.out.println(name + ": " + sentences + " sentences, " + right + " answers as due, " + wrong + " not");
        if (wrong != 0 || right == 0) {
            System.exit(1);
        }
    }
}
