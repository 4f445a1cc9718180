import java.util.ArrayList;
import java.util.List;

/** Promises 1 to 26: random runs of 512 calls answer as the slow model does, and the model's two ways agree. */
public final class ModelTest {
    private static final int RUNS = 400;
    private static final int CALLS = 512;
    private static final int MOST_SHOWN = 10;

    private static long seed = 20261119;
    private static int shown = 0;

    private RiddleDrive x = new RiddleDrive();
    private Model y = new Model();
    private int calls = 0;
    private final List<String> told = new ArrayList<>();
    private final int smallest;
    private final int greatest;

    private ModelTest(int smallest, int greatest) {
        this.smallest = smallest;
        this.greatest = greatest;
    }

    public static void main(String[] args) {
        closingAgreesWithListing();
        for (int run = 0; run < RUNS && shown < MOST_SHOWN; run++) {
            int kind = run % 4;
            new ModelTest(8, kind == 0 ? 9 : kind == 1 ? 12 : 40).run(run);
        }
        Check.end("ModelTest");
    }

    private static int below(int n) {
        seed = seed * 6364136223846793005L + 1442695040888963407L;
        return (int) ((seed >>> 33) % n);
    }

    private static int from(int a, int b) {
        return a + below(b - a + 1);
    }

    private static void closingAgreesWithListing() {
        for (int run = 0; run < 300; run++) {
            int places = from(8, 10);
            List<int[]> bounds = new ArrayList<>();
            for (int n = below(8); n > 0; n--) {
                int a = below(places);
                int b = from(a, places - 1);
                int few = below(b - a + 2);
                bounds.add(new int[] {a, b, few, Math.min(b - a + 1, few + below(2))});
            }
            Layouts listed = new Layouts(places, bounds, false);
            Layouts closed = new Layouts(places, bounds, true);
            Check.due("model: no layout", closed.none(), listed.none());
            for (int a = 0; a < places && !listed.none(); a++) {
                for (int b = a; b < places; b++) {
                    Check.due("model: least", closed.least(a, b), listed.least(a, b));
                    Check.due("model: most", closed.most(a, b), listed.most(a, b));
                }
            }
        }
    }

    private void run(int run) {
        int before = shown;
        while (calls < CALLS && shown == before) {
            step();
        }
        if (shown > before) {
            System.out.println("run " + run + ": " + String.join(" ", told));
        }
    }

    private interface Call {
        long answer();
    }

    private void compare(String name, Call got, Call due) {
        calls++;
        if (calls > CALLS) {
            return;
        }
        long g;
        try {
            g = got.answer();
        } catch (RuntimeException e) {
            g = e.getClass() == IndexOutOfBoundsException.class ? Model.OUTSIDE
                : e.getClass() == IllegalArgumentException.class ? Model.ARGUMENT
                : e.getClass() == IllegalStateException.class ? Model.STATE : -999;
        }
        told.add(name + "=" + g + ";");
        long want = due.answer();
        Check.due(name, g, want);
        if (g != want) {
            shown++;
        }
    }

    /** Most often a place; now and then one beside. */
    private int place() {
        int places = (int) y.about(0);
        return below(25) == 0 ? new int[] {-1, places, places + 1, 40, 63, 64, -64, 1 << 20}[below(8)] : below(places);
    }

    private int behind(int a) {
        int places = (int) y.about(0);
        return a < 0 || a >= places || below(12) == 0 ? place() : from(a, places - 1);
    }

    private void step() {
        int kind = below(100);
        if (kind < 26) {
            ask();
        } else if (kind < 32) {
            write();
        } else if (kind < 37) {
            set();
        } else if (kind < 70) {
            look();
        } else if (kind < 82) {
            wouldBe();
        } else if (kind < 84) {
            int i = from(-1, 12);
            compare("forget " + i, () -> x.forget(i), () -> y.forget(i));
        } else if (kind < 88) {
            for (int n = below(6) == 0 ? 16 : below(3); n >= 0; n--) {
                compare("undo", x::undo, y::undo);
            }
        } else if (kind < 90) {
            script();
        } else if (kind < 93) {
            long s = below(3) == 0 ? seed : below(1000);
            int m = from(below(5), 31);
            compare("simulate " + s + " " + m, () -> x.simulate(s, m), () -> y.simulate(s, m));
        } else if (kind < 96) {
            slots();
        } else if (kind == 96) {
            int places = below(8) == 0 ? from(-1, 42) : from(smallest, greatest);
            compare("resize " + places, () -> x.resize(places), () -> y.resize(places));
        } else if (kind == 97) {
            text();
        } else {
            script();
        }
    }

    private void ask() {
        int a = place();
        int b = behind(a);
        compare("ask " + a + " " + b, () -> x.ask(a, b), () -> y.ask(a, b));
    }

    private void write() {
        int i = place();
        boolean is = below(3) > 0;
        compare("write " + i + " " + is, () -> x.write(i, is), () -> y.write(i, is));
    }

    private void set() {
        int what = below(10) == 0 ? from(-1, 3) : below(3);
        int v = what == 0 && below(3) > 0 ? from(1, 3) : from(-1, 10);
        compare("set " + what + " " + v, () -> x.set(what, v), () -> y.set(what, v));
    }

    private void look() {
        int a = place();
        int b = behind(a);
        int what = from(-1, below(3) == 0 ? 10 : 9);
        int i = from(-1, 12);
        int part = below(20) == 0 ? from(-1, 4) : below(4);
        switch (below(8)) {
            case 0: compare("about " + what, () -> x.about(what), () -> y.about(what)); break;
            case 1: compare("has " + a, () -> x.has(a) ? 1 : 0, () -> y.has(a)); break;
            case 2: compare("answer " + i + " " + part, () -> x.answer(i, part), () -> y.answer(i, part)); break;
            case 3: compare("least " + a + " " + b, () -> x.least(a, b), () -> y.least(a, b)); break;
            case 4: compare("most " + a + " " + b, () -> x.most(a, b), () -> y.most(a, b)); break;
            case 5: compare("known " + a, () -> x.known(a), () -> y.known(a)); break;
            case 6: compare("knownAt " + i, () -> x.knownAt(i), () -> y.knownAt(i)); break;
            default: compare("about 9", () -> x.about(9), () -> y.about(9)); break;
        }
    }

    private void wouldBe() {
        int a = place();
        int b = behind(a);
        switch (below(4)) {
            case 0: compare("costs " + a + " " + b, () -> x.costs(a, b), () -> y.costs(a, b)); break;
            case 1: compare("bestQuestion", x::bestQuestion, y::bestQuestion); break;
            case 2: compare("worst " + a + " " + b, () -> x.worst(a, b), () -> y.worst(a, b)); break;
            default: compare("leastWorth", x::leastWorth, y::leastWorth); break;
        }
    }

    private void script() {
        int n = below(20) == 0 ? below(5) : from(1, 3);
        long script = 0;
        for (int i = 0; i < n; i++) {
            script = script * 100000 + group();
        }
        if (below(20) == 0) {
            script = script * 10 - below(2);
        }
        long s = script;
        compare("runScript " + n + " " + s, () -> x.runScript(n, s), () -> y.runScript(n, s));
    }

    private int group() {
        int places = (int) y.about(0);
        int a = below(places);
        int b = from(a, places - 1);
        if (below(12) == 0) {
            return below(100000);
        }
        switch (below(9)) {
            case 0: return 10000 + 100 * a + b;
            case 1: return 20000 + 100 * a + 10 * below(2);
            case 2: return 30000 + 1000 * below(3) + 100 * below(10);
            case 3: return 40000 + 100 * below(12);
            case 4: return 50000 + 100 * a + below(2);
            case 5: return 60000 + below(places + 1);
            case 6: return 70000 + below(1000);
            case 7: return 80000 + below(14);
            default: return 90000 + below(places + 1);
        }
    }

    private void slots() {
        int slot = below(10) == 0 ? from(-1, 2) : below(2);
        if (below(2) == 0) {
            compare("save " + slot, () -> x.save(slot), () -> y.save(slot));
        } else {
            compare("restore " + slot, () -> x.restore(slot), () -> y.restore(slot));
        }
    }

    private void text() {
        compare("clearText", x::clearText, y::clearText);
        StringBuilder s = new StringBuilder();
        int places = from(smallest, greatest);
        s.append('K').append(places / 10).append(places % 10);
        for (int n = below(10); n > 0; n--) {
            int a = below(places);
            int b = from(a, places - 1);
            switch (below(5)) {
                case 0: s.append('w').append(from(1, 4)); break;
                case 1: s.append('s').append(from(0, 4)); break;
                case 2: s.append('f').append(from(0, 9)); break;
                case 3: s.append('q').append(a / 10).append(a % 10).append(b / 10).append(b % 10); break;
                default: s.append('k').append(a / 10).append(a % 10); break;
            }
        }
        if (below(3) == 0) {
            s.setCharAt(below(s.length()), "Kkwsfq0123456789 ".charAt(below(17)));
        }
        if (below(4) == 0) {
            s.setLength(below(s.length() + 1));
        }
        for (int i = 0; i < s.length(); i++) {
            int c = below(200) == 0 ? from(-1, 256) : s.charAt(i);
            compare("append " + c, () -> x.append(c), () -> y.append(c));
        }
        compare("errorPosition", x::errorPosition, y::errorPosition);
        compare("load", x::load, y::load);
    }
}
