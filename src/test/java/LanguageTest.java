import java.io.IOException;
import java.lang.reflect.Constructor;
import java.lang.reflect.Field;
import java.lang.reflect.Method;
import java.lang.reflect.Modifier;
import java.nio.file.Files;
import java.nio.file.Path;
import java.util.ArrayList;
import java.util.List;
import java.util.Set;
import java.util.TreeSet;
import java.util.regex.Matcher;
import java.util.regex.Pattern;

/**
 * LANGUAGE.md, as far as the words of the program and its members show it. The rules are narrower here than they stand
 * there: what the program does not use is not allowed by the test, either, so that who adds it looks the rule up.
 */
public final class LanguageTest {
    private static final Path FILE = Path.of("src", "main", "java", "RiddleDrive.java");
    private static final Set<String> TYPES = Set.of("int", "long", "boolean", "char", "int[]", "char[]", "void");
    private static final Set<String> LIBRARY = Set.of("Math.max", "Math.min", "Long.bitCount");
    private static final Set<String> THROWN = Set.of("IllegalStateException", "IllegalArgumentException",
        "IndexOutOfBoundsException");
    private static final String[] FORBIDDEN = {
        "import", "package", "protected", "try", "catch", "finally", "synchronized", "assert", "instanceof", "enum",
        "record", "interface", "extends", "implements", "abstract", "native", "volatile", "transient", "yield", "var",
        "equals", "hashCode", "toString", "getMessage", "System", "Thread", "Object", "Random", "String", "float",
        "double", "while", "this", "super",
    };

    public static void main(String[] args) throws IOException {
        String source = Files.readString(FILE);
        String code = withoutTexts(source);
        members();
        words(code);
        library(code);
        exceptions(source, code);
        lengths(code);
        Check.end("LanguageTest");
    }

    /** Without comments, and with texts and characters emptied. */
    private static String withoutTexts(String source) {
        return source.replaceAll("\"[^\"\n]*\"", "\"\"").replaceAll("'[^']'", "' '").replaceAll("//[^\n]*", "")
            .replaceAll("(?s)/\\*.*?\\*/", "");
    }

    private static List<Class<?>> classes() {
        List<Class<?>> all = new ArrayList<>(List.of(RiddleDrive.class.getDeclaredClasses()));
        all.add(RiddleDrive.class);
        return all;
    }

    /** Rules 1, 2, 3, 5 and 11. */
    private static void members() {
        Check.due("at most twelve classes", classes().size() <= 12, true);
        Set<String> face = new TreeSet<>();
        for (Method m : RiddleDrive.class.getDeclaredMethods()) {
            if (Modifier.isPublic(m.getModifiers())) {
                face.add(m.getName());
            }
        }
        for (Class<?> c : classes()) {
            boolean outer = c == RiddleDrive.class;
            String name = c.getSimpleName();
            Check.due(name + " is static", outer || Modifier.isStatic(c.getModifiers()), true);
            Check.due(name + " is not public inside", outer || !Modifier.isPublic(c.getModifiers()), true);
            Check.due(name + " has no class inside", outer || c.getDeclaredClasses().length == 0, true);
            fields(c);
            for (Method m : c.getDeclaredMethods()) {
                Check.due(m + ": a method of the face, or no name of one",
                    outer && Modifier.isPublic(m.getModifiers()) || !face.contains(m.getName()), true);
                Check.due(m + " takes at most seven", m.getParameterCount() <= 7, true);
                Check.due(m + " answers a known type", isKnown(m.getReturnType()), true);
            }
            for (Constructor<?> made : c.getDeclaredConstructors()) {
                Check.due(made + " takes nothing", made.getParameterCount(), 0);
            }
        }
    }

    private static void fields(Class<?> c) {
        int cells = 0;
        for (Field f : c.getDeclaredFields()) {
            boolean fixed = Modifier.isStatic(f.getModifiers());
            cells += fixed ? 0 : 1;
            Check.due(f + ": a static field is a constant", !fixed || Modifier.isFinal(f.getModifiers())
                && f.getType().isPrimitive(), true);
            Check.due(f + " is of a known type", isKnown(f.getType()), true);
        }
        Check.due(c.getSimpleName() + " has at most twenty fields", cells <= 20, true);
    }

    private static boolean isKnown(Class<?> type) {
        Class<?> each = type.isArray() ? type.getComponentType() : type;
        return TYPES.contains(type.getSimpleName()) || classes().contains(each);
    }

    /** Rules 2, 4, 6, 9, 10 and 13: what does not occur. */
    private static void words(String code) {
        for (String word : FORBIDDEN) {
            Check.due("the word " + word, Pattern.compile("\\b" + word + "\\b").matcher(code).find(), false);
        }
        for (String sign : new String[] {"->", "::", "\"\" +", "+ \"\"", "@", "[][]", "static {"}) {
            Check.due("the sign " + sign, code.contains(sign), false);
        }
        Check.due("no sign beyond 127", code.chars().allMatch(c -> c < 128), true);
    }

    /** Rule 4: what is called with a class's name before it. */
    private static void library(String code) {
        Matcher call = Pattern.compile("\\b([A-Z]\\w*)\\.(\\w+)").matcher(code);
        while (call.find()) {
            Check.due(call.group() + " is in the library", LIBRARY.contains(call.group()), true);
        }
        Matcher made = Pattern.compile("\\bnew (\\w+)[(\\[]").matcher(code);
        Set<String> own = new TreeSet<>(Set.of("int", "char"));
        for (Class<?> c : classes()) {
            own.add(c.getSimpleName());
        }
        while (made.find()) {
            Check.due("new " + made.group(1), own.contains(made.group(1)) || THROWN.contains(made.group(1)), true);
        }
    }

    /** Rule 6: each throw makes one of the exceptions, with a written text. */
    private static void exceptions(String source, String code) {
        int throwing = 0;
        Matcher thrown = Pattern.compile("\\bthrow\\b").matcher(code);
        while (thrown.find()) {
            throwing++;
        }
        int written = 0;
        Matcher whole = Pattern.compile("\\bthrow new (\\w+)\\(\"[^\"]+\"\\);").matcher(source);
        while (whole.find()) {
            written++;
            Check.due(whole.group() + " is allowed", THROWN.contains(whole.group(1)), true);
        }
        Check.due("throws as they must be written", written, throwing);
    }

    /** Rule 11: methods of some sixty lines. A method begins and ends with four or eight blanks. */
    private static void lengths(String code) {
        int begin = 0;
        String[] lines = code.split("\n");
        for (int i = 0; i < lines.length; i++) {
            if (lines[i].matches(" {4}( {4})?[^ }].*\\{")) {
                begin = i;
            } else if (lines[i].matches(" {4}( {4})?\\}")) {
                int length = i - begin + 1;
                Check.due("the method that ends in line " + (i + 1) + " is short", length <= 60, true);
            }
        }
    }
}
