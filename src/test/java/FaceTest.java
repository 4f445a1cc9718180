import java.lang.reflect.Constructor;
import java.lang.reflect.Field;
import java.lang.reflect.Method;
import java.lang.reflect.Modifier;
import java.util.Set;
import java.util.TreeSet;

/** What it is, The public face, the constants. */
public final class FaceTest {
    public static void main(String[] args) {
        Check.sentence("What it is", "An object is used for at most 512 calls after it has been made",
            FaceTest::theLastCallCounts);
        Check.sentence("The public face", "public final class RiddleDrive", FaceTest::theFaceIsWhole);
        Check.sentence("The constants", "NONE = -1: There is no such result.", FaceTest::none);
        Check.sentence("The constants", "FEW = -2: The answer that there are fewer keys than the secrecy.",
            FaceTest::few);
        Check.end("FaceTest");
    }

    private static void theLastCallCounts() {
        RiddleDrive x = new RiddleDrive();
        for (int call = 1; call <= 510; call++) {
            x.ask(call % 13, call % 13 + 3);
        }
        Check.due("the 511th call", x.about(7), 510);
        // of 13 ranges in turn the one that comes is always the one that was forgotten last, so each is paid
        Check.due("the 512th call", x.about(6), 2 * 510);
        RiddleDrive y = new RiddleDrive();
        for (int call = 1; call <= 511; call++) {
            y.write(call % 16, call % 3 == 0);
        }
        Check.due("the 512th call takes one back", y.undo(), 13);
    }

    /** Each member that can be seen from outside stands in the document, and each of the document is there. */
    private static void theFaceIsWhole() {
        Check.due("the class is public and final", Modifier.isPublic(RiddleDrive.class.getModifiers())
            && Modifier.isFinal(RiddleDrive.class.getModifiers()), true);
        if (Doc.isThere()) {
            Check.same("the members that can be seen", String.join("\n", members()), String.join("\n", promised()));
        }
    }

    private static Set<String> members() {
        Set<String> all = new TreeSet<>();
        for (Field f : RiddleDrive.class.getDeclaredFields()) {
            add(all, f.getModifiers(), f.getType().getSimpleName() + " " + f.getName(), new Class<?>[0]);
        }
        for (Constructor<?> c : RiddleDrive.class.getDeclaredConstructors()) {
            add(all, c.getModifiers(), "RiddleDrive(" + names(c.getParameterTypes()) + ")", c.getExceptionTypes());
        }
        for (Method m : RiddleDrive.class.getDeclaredMethods()) {
            String head = m.getReturnType().getSimpleName() + " " + m.getName();
            add(all, m.getModifiers(), head + "(" + names(m.getParameterTypes()) + ")", m.getExceptionTypes());
        }
        return all;
    }

    private static void add(Set<String> all, int modifiers, String head, Class<?>[] thrown) {
        if (!Modifier.isPrivate(modifiers)) {
            all.add(Modifier.toString(modifiers) + " " + head + (thrown.length == 0 ? "" : " throws " + names(thrown)));
        }
    }

    private static String names(Class<?>[] types) {
        StringBuilder s = new StringBuilder();
        for (Class<?> type : types) {
            s.append(s.length() == 0 ? "" : ", ").append(type.getSimpleName());
        }
        return s.toString();
    }

    private static Set<String> promised() {
        String face = Doc.section("The public face");
        Set<String> all = new TreeSet<>();
        for (String member : face.substring(face.indexOf('{') + 1, face.indexOf('}')).split(";")) {
            String head = member.replaceFirst(" = .*", "").replaceAll("(int|long|boolean) \\w+([,)])", "$1$2").trim();
            if (!head.isEmpty()) {
                all.add(head);
            }
        }
        return all;
    }

    private static void none() {
        Check.due("NONE", RiddleDrive.NONE, -1);
        Check.due("no known place", new RiddleDrive().knownAt(0), -1);
        Check.due("no answer", new RiddleDrive().leastWorth(), -1);
    }

    private static void few() {
        Check.due("FEW", RiddleDrive.FEW, -2);
        Check.due("fewer than 2 keys", new RiddleDrive().ask(0, 15), -2);
    }
}
