import java.io.IOException;
import java.lang.reflect.InvocationTargetException;
import java.lang.reflect.Method;
import java.lang.reflect.Modifier;
import java.nio.file.Files;
import java.nio.file.Path;
import java.util.ArrayList;
import java.util.List;
import java.util.Set;
import java.util.TreeSet;
import java.util.regex.Matcher;
import java.util.regex.Pattern;

/** README.md is right: its calls answer as its comments say, and its tables name each method and what it throws. */
public final class ReadmeTest {
    private static final Pattern CALL = Pattern.compile("drive\\.(\\w+)\\((.*)\\);\\s+// (?:throws )?(-?\\w+).*");
    private static final Pattern TYPED = Pattern.compile("for \\(char c : \"(\\w+)\".*");
    private static final Pattern ROW = Pattern.compile("\\| `(\\w+\\([^|]*\\))` \\| [^|]+ \\| ([^|]+) \\|");
    private static final Pattern EXCEPTION = Pattern.compile("`(\\w+Exception)` if ");

    public static void main(String[] args) throws IOException {
        List<String> page = Files.readAllLines(Path.of("README.md"));
        itsCallsAnswer(page);
        itsTablesAreWhole(page);
        Check.end("ReadmeTest");
    }

    // ---- the calls

    private static void itsCallsAnswer(List<String> page) {
        RiddleDrive drive = new RiddleDrive();
        boolean code = false;
        int calls = 0;
        for (String line : page) {
            if (line.startsWith("```")) {
                code = line.equals("```java");
            } else if (code && line.equals("RiddleDrive drive = new RiddleDrive();")) {
                drive = new RiddleDrive();
            } else if (code && TYPED.matcher(line).matches()) {
                Check.type(drive, line.split("\"")[1]);
            } else if (code) {
                Matcher call = CALL.matcher(line);
                Check.due("a call and its answer: " + line, call.matches(), true);
                Check.same(line, answer(drive, call.group(1), call.group(2)), constant(call.group(3)));
                calls++;
            }
        }
        Check.due("there are calls", calls > 20, true);
    }

    private static String constant(String word) {
        return word.equals("NONE") ? "" + RiddleDrive.NONE : word.equals("FEW") ? "" + RiddleDrive.FEW : word;
    }

    /** What the call returns, or the name of what it throws. */
    private static String answer(RiddleDrive drive, String name, String arguments) {
        String[] words = arguments.isEmpty() ? new String[0] : arguments.split(", ");
        for (Method m : RiddleDrive.class.getMethods()) {
            if (m.getName().equals(name) && m.getParameterCount() == words.length) {
                Object[] values = new Object[words.length];
                for (int i = 0; i < words.length; i++) {
                    values[i] = value(words[i], m.getParameterTypes()[i]);
                }
                try {
                    return m.invoke(drive, values).toString();
                } catch (InvocationTargetException e) {
                    return e.getCause().getClass().getSimpleName();
                } catch (IllegalAccessException e) {
                    return e.toString();
                }
            }
        }
        return "no such method";
    }

    private static Object value(String word, Class<?> type) {
        if (type == boolean.class) {
            return word.equals("true");
        }
        if (word.startsWith("'")) {
            return (int) word.charAt(1);
        }
        if (type == long.class) {
            return Long.parseLong(word.replace("L", ""));
        }
        return Integer.parseInt(word);
    }

    // ---- the tables

    private static void itsTablesAreWhole(List<String> page) {
        Set<String> told = new TreeSet<>();
        for (String line : page) {
            Matcher row = ROW.matcher(line);
            if (row.matches()) {
                told.add(row.group(1).replaceAll("(int|long|boolean) \\w+", "$1") + " throws " + named(row.group(2)));
            }
        }
        Set<String> due = new TreeSet<>();
        for (Method m : RiddleDrive.class.getDeclaredMethods()) {
            if (Modifier.isPublic(m.getModifiers())) {
                due.add(m.getName() + "(" + names(m.getParameterTypes()) + ") throws " + names(m.getExceptionTypes()));
            }
        }
        Check.same("the methods in the tables", String.join("\n", told), String.join("\n", due));
    }

    private static String named(String cell) {
        List<String> all = new ArrayList<>();
        Matcher exception = EXCEPTION.matcher(cell);
        while (exception.find()) {
            all.add(exception.group(1));
        }
        return String.join(", ", all);
    }

    private static String names(Class<?>[] types) {
        List<String> all = new ArrayList<>();
        for (Class<?> type : types) {
            all.add(type.getSimpleName());
        }
        return String.join(", ", all);
    }
}
