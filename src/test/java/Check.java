/** What the tests of the project share: counting, drives from texts, and a look at all that can be seen of a drive. */
final class Check {
    private static int right = 0;
    private static int wrong = 0;

    private Check() {
    }

    static void due(String what, long got, long want) {
        same(what, Long.toString(got), Long.toString(want));
    }

    static void due(String what, boolean got, boolean want) {
        same(what, Boolean.toString(got), Boolean.toString(want));
    }

    static void same(String what, String got, String want) {
        if (got.equals(want)) {
            right++;
        } else {
            wrong++;
            System.out.println(what + ": answered " + got + ", due is " + want);
        }
    }

    /** The call must throw just this exception and leave all that can be seen of the drive as it was. */
    static void refused(RiddleDrive x, String what, Class<? extends RuntimeException> want, Runnable call) {
        String before = look(x);
        String got = "nothing";
        try {
            call.run();
        } catch (RuntimeException e) {
            got = e.getClass().getName();
        }
        same(what + " throws", got, want.getName());
        same(what + " leaves the state", look(x), before);
    }

    static void outside(RiddleDrive x, String what, Runnable call) {
        refused(x, what, IndexOutOfBoundsException.class, call);
    }

    static void argument(RiddleDrive x, String what, Runnable call) {
        refused(x, what, IllegalArgumentException.class, call);
    }

    static void state(RiddleDrive x, String what, Runnable call) {
        refused(x, what, IllegalStateException.class, call);
    }

    /** A new object in whose text buffer this text stands. */
    static RiddleDrive withText(String text) {
        RiddleDrive x = new RiddleDrive();
        type(x, text);
        return x;
    }

    static void type(RiddleDrive x, String text) {
        for (int i = 0; i < text.length(); i++) {
            x.append(text.charAt(i));
        }
    }

    /** A new object that has loaded this text. */
    static RiddleDrive drive(String text) {
        RiddleDrive x = withText(text);
        due("errorPosition of " + text, x.errorPosition(), RiddleDrive.NONE);
        x.load();
        return x;
    }

    static String look(RiddleDrive x) {
        StringBuilder s = new StringBuilder();
        s.append("error ").append(x.errorPosition()).append(" about");
        for (int what = 0; what <= 9; what++) {
            s.append(' ').append(x.about(what));
        }
        s.append(" keys ");
        for (int i = 0; i < x.about(0); i++) {
            s.append(x.has(i) ? '1' : '0');
        }
        s.append(" known ");
        for (int i = 0; i < x.about(0); i++) {
            s.append(x.known(i) == RiddleDrive.NONE ? "?" : "" + x.known(i));
        }
        s.append(" answers ").append(answers(x));
        return s.toString();
    }

    /** The answers as first-last=told:paid. */
    static String answers(RiddleDrive x) {
        StringBuilder s = new StringBuilder();
        for (int i = 0; i < x.about(5); i++) {
            s.append(i > 0 ? " " : "");
            s.append(x.answer(i, 0)).append('-').append(x.answer(i, 1));
            s.append('=').append(x.answer(i, 2)).append(':').append(x.answer(i, 3));
        }
        return s.toString();
    }

    static String keys(RiddleDrive x) {
        StringBuilder s = new StringBuilder();
        for (int i = 0; i < x.about(0); i++) {
            s.append(x.has(i) ? '1' : '0');
        }
        return s.toString();
    }

    static void end(String name) {
        System.out.println(name + ": " + right + " answers as due, " + wrong + " not");
        if (wrong != 0 || right == 0) {
            System.exit(1);
        }
    }
}
