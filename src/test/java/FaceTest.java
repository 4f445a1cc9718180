import java.lang.reflect.Constructor;
import java.lang.reflect.Field;
import java.lang.reflect.Method;
import java.lang.reflect.Modifier;
import java.util.List;
import java.util.Set;
import java.util.TreeSet;

/** What it is, The public face, the constants, and what the sections of the interface have in common. */
public final class FaceTest {
    private static final String[] MEMBERS = {
        "public static final int NONE = -1;",
        "public static final int FEW = -2;",
        "public RiddleDrive();",
        "public int append(int c) throws IllegalArgumentException, IllegalStateException;",
        "public int clearText();",
        "public int errorPosition();",
        "public int load() throws IllegalStateException;",
        "public int about(int what) throws IllegalArgumentException;",
        "public boolean has(int i) throws IndexOutOfBoundsException;",
        "public int answer(int i, int what) throws IndexOutOfBoundsException, IllegalArgumentException;",
        "public int least(int a, int b) throws IndexOutOfBoundsException, IllegalArgumentException;",
        "public int most(int a, int b) throws IndexOutOfBoundsException, IllegalArgumentException;",
        "public int known(int i) throws IndexOutOfBoundsException;",
        "public int knownAt(int i) throws IllegalArgumentException;",
        "public int write(int i, boolean is) throws IndexOutOfBoundsException;",
        "public int set(int what, int v) throws IllegalArgumentException;",
        "public int ask(int a, int b) throws IndexOutOfBoundsException, IllegalArgumentException, "
            + "IllegalStateException;",
        "public int forget(int i) throws IndexOutOfBoundsException;",
        "public int resize(int places) throws IllegalArgumentException;",
        "public int undo() throws IllegalStateException;",
        "public int costs(int a, int b) throws IndexOutOfBoundsException, IllegalArgumentException;",
        "public int bestQuestion();",
        "public int worst(int a, int b) throws IndexOutOfBoundsException, IllegalArgumentException;",
        "public int leastWorth();",
        "public int runScript(int n, long script) throws IllegalArgumentException;",
        "public int simulate(long seed, int m) throws IllegalArgumentException;",
        "public int save(int slot) throws IndexOutOfBoundsException;",
        "public int restore(int slot) throws IndexOutOfBoundsException, IllegalStateException;",
    };

    public static void main(String[] args) {
        whatItIs();
        publicFace();
        Check.sentence("The constants", "The constants: NONE = -1: There is no such result.", FaceTest::none);
        Check.sentence("The constants", "FEW = -2: The answer that there are fewer keys than the secrecy.",
            FaceTest::few);
        sections();
        Check.due("each section of the document has its tests", tested().containsAll(Doc.sections()), true);
        Check.end("FaceTest", "What it is", "The public face", "The constants", "Ahead of the calls");
    }

    /** What the test files end with; behind "Not promised" nothing is due. */
    private static Set<String> tested() {
        Set<String> all = new TreeSet<>(List.of("What it is", "The public face", "Terms", "THE DRIVE",
            "QUESTIONS AND ANSWERS", "WHAT IS KNOWN", "TEXT", "ACTIONS AND UNDO", "EXCEPTIONS", "The constants",
            "Ahead of the calls", "Not promised"));
        for (int i = 1; i <= 26; i++) {
            all.add("Promise " + i);
        }
        return all;
    }

    // ---- what it is

    private static void whatItIs() {
        String s = "What it is";
        Check.sentence(s, "A drive of keys that answers in riddles: it tells how many keys there are in a range, ",
            FaceTest::tellsHowMany);
        Check.sentence(s, "never of a narrow one, ", FaceTest::neverOfANarrowOne);
        Check.sentence(s, "and keeps silent about how few there are; ", FaceTest::silentAboutHowFew);
        Check.sentence(s, "an asker that keeps the answers, ", FaceTest::keepsTheAnswers);
        Check.sentence(s, "pays for them, ", FaceTest::paysForThem);
        Check.sentence(s, "and works out from all of them together which places must have a key and which cannot; ",
            FaceTest::worksOut);
        Check.sentence(s, "writes that make answers worthless.", FaceTest::writesMakeWorthless);
        Check.sentence(s, "An object is used for at most 512 calls after it has been made; what later calls answer is "
            + "free.", FaceTest::theLastCallCounts);
    }

    private static void tellsHowMany() {
        RiddleDrive x = Check.drive("K12k01k02k04k06k10");
        int[][] due = {{0, 2, 2}, {0, 4, 3}, {0, 11, 5}, {4, 10, 3}, {1, 10, 5}, {2, 6, 3}};
        for (int[] d : due) {
            Check.due("keys from " + d[0] + " to " + d[1], x.ask(d[0], d[1]), d[2]);
        }
    }

    private static void neverOfANarrowOne() {
        Check.Make make = () -> Check.drive("K12k01k02k04");
        Check.state(make, "ask 1 2", x -> x.ask(1, 2));
        Check.state(make, "ask 4 4", x -> x.ask(4, 4));
        Check.due("three places", make.drive().ask(1, 3), 2);
    }

    private static void silentAboutHowFew() {
        RiddleDrive x = Check.drive("K12k01k07k08");
        Check.due("one key", x.ask(0, 5), -2);
        Check.due("no key", x.ask(2, 5), -2);
        Check.due("two keys", x.ask(6, 11), 2);
    }

    private static void keepsTheAnswers() {
        RiddleDrive x = Check.drive("K12k01k07k08");
        x.ask(6, 11);
        x.ask(0, 5);
        Check.same("the answers", Check.answers(x), "6-11=2:2 0-5=-2:2");
    }

    private static void paysForThem() {
        RiddleDrive x = Check.drive("K12k01k07k08f4");
        x.ask(6, 11);
        Check.due("paid for one", x.about(6), 5);
        x.ask(0, 7);
        Check.due("paid for two", x.about(6), 11);
    }

    /** Neither answer tells of a place: 2 keys of 0 to 3, and 3 keys of 0 to 4, but both tell of place 4. */
    private static void worksOut() {
        RiddleDrive x = Check.drive("K12k01k02k04");
        x.ask(0, 3);
        Check.due("known from one answer", x.about(9), 0);
        x.ask(0, 4);
        Check.due("known from both", x.about(9), 1);
        Check.due("place 4 must have a key", x.known(4), 1);
        x.ask(0, 5);
        Check.due("place 5 cannot have one", x.known(5), 0);
        Check.due("place 3 is open", x.known(3), -1);
    }

    private static void writesMakeWorthless() {
        RiddleDrive x = Check.drive("K12k01k02k04q0003q0004q0611");
        Check.due("known", x.known(4), 1);
        Check.due("worthless answers", x.write(2, false), 2);
        Check.due("known no longer", x.known(4), -1);
        Check.same("what is left", Check.answers(x), "6-11=-2:2");
    }

    private static void theLastCallCounts() {
        RiddleDrive x = new RiddleDrive();
        for (int call = 1; call <= 510; call++) {
            x.ask(call % 13, call % 13 + 3);
        }
        Check.due("the 511th call", x.about(7), 510);
        // of 13 ranges in turn the one that comes is always the one that was forgotten last, so each is paid
        Check.due("the 512th call", x.about(6), 2 * 510);
        RiddleDrive y = new RiddleDrive();
        for (int call = 1; call <= 511; call++) {
            y.write(call % 16, call % 3 == 0);
        }
        Check.due("the 512th call takes one back", y.undo(), 13);
    }

    // ---- the public face

    private static void publicFace() {
        String s = "The public face";
        Check.sentence(s, "public final class RiddleDrive {", FaceTest::theFaceIsWhole);
        for (String member : MEMBERS) {
            Check.sentence(s, member, () -> Check.due("there is one", members().contains(plain(member)), true));
        }
    }

    /** No member can be seen that does not stand in the document. */
    private static void theFaceIsWhole() {
        int modifiers = RiddleDrive.class.getModifiers();
        Check.same("the class", Modifier.toString(modifiers), "public final");
        Check.same("the class above", RiddleDrive.class.getSuperclass().getSimpleName(), "Object");
        Check.due("the interfaces", RiddleDrive.class.getInterfaces().length, 0);
        Set<String> promised = new TreeSet<>();
        for (String member : MEMBERS) {
            promised.add(plain(member));
        }
        Check.same("the members that can be seen", String.join("\n", members()), String.join("\n", promised));
    }

    /** A member without the names of its arguments and without its value, which reflection does not tell. */
    private static String plain(String member) {
        return member.replaceFirst(" = .*", "").replaceAll("(int|long|boolean) \\w+([,)])", "$1$2").replace(";", "");
    }

    private static Set<String> members() {
        Set<String> all = new TreeSet<>();
        for (Field f : RiddleDrive.class.getDeclaredFields()) {
            add(all, f.getModifiers(), f.getType().getSimpleName() + " " + f.getName(), new Class<?>[0]);
        }
        for (Constructor<?> c : RiddleDrive.class.getDeclaredConstructors()) {
            add(all, c.getModifiers(), "RiddleDrive(" + names(c.getParameterTypes()) + ")", c.getExceptionTypes());
        }
        for (Method m : RiddleDrive.class.getDeclaredMethods()) {
            String head = m.getReturnType().getSimpleName() + " " + m.getName();
            add(all, m.getModifiers(), head + "(" + names(m.getParameterTypes()) + ")", m.getExceptionTypes());
        }
        return all;
    }

    private static void add(Set<String> all, int modifiers, String head, Class<?>[] thrown) {
        if (!Modifier.isPrivate(modifiers)) {
            all.add(Modifier.toString(modifiers) + " " + head + (thrown.length == 0 ? "" : " throws " + names(thrown)));
        }
    }

    private static String names(Class<?>[] types) {
        StringBuilder s = new StringBuilder();
        for (Class<?> type : types) {
            s.append(s.length() == 0 ? "" : ", ").append(type.getSimpleName());
        }
        return s.toString();
    }

    // ---- the constants

    private static void none() {
        Check.due("NONE", RiddleDrive.NONE, -1);
        Check.due("no known place", new RiddleDrive().knownAt(0), -1);
        Check.due("no answer", new RiddleDrive().leastWorth(), -1);
    }

    private static void few() {
        Check.due("FEW", RiddleDrive.FEW, -2);
        Check.due("fewer than 2 keys", new RiddleDrive().ask(0, 15), -2);
    }

    // ---- the sections of the interface

    private static void sections() {
        String s = "Ahead of the calls";
        Check.sentence(s, "Ahead of the calls append, clearText, errorPosition, load the interface says: ---- text.",
            FaceTest::textCallsTouchTheText);
        Check.sentence(s, "Ahead of the calls about, has, answer the interface says: ---- what there is.",
            () -> noneChangesAnything(THERE_IS));
        Check.sentence(s, "Ahead of the calls least, most, known, knownAt the interface says: ---- what is known.",
            () -> noneChangesAnything(KNOWN));
        Check.sentence(s, "Ahead of the calls write, set, ask, forget, resize, undo the interface says: ---- actions.",
            FaceTest::actionsCanBeUndone);
        Check.sentence(s, "Ahead of the calls costs, bestQuestion, worst, leastWorth the interface says: ---- what "
            + "would be; these and all following methods up to the save slots change nothing.",
            () -> noneChangesAnything(WOULD_BE));
        Check.sentence(s, "Ahead of the calls runScript, simulate the interface says: ---- scripts, simulations.",
            () -> noneChangesAnything(SCRIPTS));
        Check.sentence(s, "Ahead of the calls save, restore the interface says: ---- save slots.",
            FaceTest::slotCallsTouchTheSlots);
    }

    private static final Check.Call[] THERE_IS = {
        x -> x.about(0), x -> x.about(1), x -> x.about(6), x -> x.about(8), x -> x.about(9), x -> x.has(0),
        x -> x.has(3), x -> x.answer(0, 0), x -> x.answer(1, 3),
    };
    private static final Check.Call[] KNOWN = {
        x -> x.least(0, 5), x -> x.least(3, 3), x -> x.most(0, 5), x -> x.most(3, 3), x -> x.known(0),
        x -> x.known(3), x -> x.knownAt(0), x -> x.knownAt(Integer.MAX_VALUE),
    };
    private static final Check.Call[] WOULD_BE = {
        x -> x.costs(0, 5), x -> x.costs(0, 1), x -> x.bestQuestion(), x -> x.worst(0, 5), x -> x.worst(0, 1),
        x -> x.leastWorth(),
    };
    private static final Check.Call[] SCRIPTS = {
        x -> x.runScript(3, 100062001040000L), x -> x.runScript(3, 314002030030800L), x -> x.runScript(1, 20000),
        x -> x.runScript(1, 0), x -> x.simulate(7, 30), x -> x.simulate(-1, 1),
    };

    private static void noneChangesAnything(Check.Call[] calls) {
        for (int i = 0; i < calls.length; i++) {
            Check.unchanged(Check::busy, "call " + i, calls[i]);
            Check.unchanged(Check::crowded, "call " + i, calls[i]);
        }
    }

    private static void textCallsTouchTheText() {
        Check.unchanged(Check::busy, "errorPosition", RiddleDrive::errorPosition);
        Check.unchanged(Check::crowded, "errorPosition", RiddleDrive::errorPosition);
        RiddleDrive x = Check.busy();
        String before = Check.look(x);
        x.append('f');
        Check.due("the text is longer and no drive", x.errorPosition(), 22);
        Check.due("the text was", x.clearText(), 22);
        Check.due("the text is empty", x.errorPosition(), 0);
        Check.same("the state", Check.look(x), before);
        Check.due("states left", x.undo(), 3);
        Check.due("slot 0", x.restore(0), 2);
        Check.due("slot 1", x.restore(1), 3);
        RiddleDrive y = Check.busy();
        y.load();
        Check.due("load takes the state from the text", y.about(2), 5);
        Check.due("and leaves the text", y.clearText(), 21);
    }

    private static void actionsCanBeUndone() {
        Check.Call[] actions = {
            x -> x.write(0, true), x -> x.set(1, 3), x -> x.ask(1, 9), x -> x.forget(1), x -> x.resize(30),
        };
        for (int i = 0; i < actions.length; i++) {
            RiddleDrive x = Check.busy();
            String before = Check.look(x);
            actions[i].on(x);
            Check.due("action " + i + " changes nothing", Check.look(x).equals(before), false);
            Check.due("states behind the undo of action " + i, x.undo(), 4);
            Check.same("the state behind the undo of action " + i, Check.look(x), before);
        }
    }

    private static void slotCallsTouchTheSlots() {
        RiddleDrive x = Check.busy();
        String before = Check.look(x);
        Check.due("save", x.save(0), 2);
        Check.same("the state behind save", Check.look(x), before);
        Check.due("states behind save", x.undo(), 3);
        Check.due("restore", x.restore(0), 2);
        Check.same("the state behind restore", Check.look(x), before);
        Check.due("the text behind both", x.clearText(), 21);
    }
}
