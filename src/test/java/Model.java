import java.util.ArrayDeque;
import java.util.ArrayList;
import java.util.Deque;
import java.util.List;

/** The document once more, written slowly and apart from the program, to compare random runs of calls with. */
final class Model {
    static final long OUTSIDE = 1_000_000_001L;
    static final long ARGUMENT = 1_000_000_002L;
    static final long STATE = 1_000_000_003L;

    private static final class Held {
        boolean[] keys = new boolean[16];
        int width = 3;
        int secrecy = 2;
        int fee = 1;
        int paid;
        int asked;
        int forgotten;
        /** {first, last, told, paid} */
        List<int[]> answers = new ArrayList<>();

        Held copy() {
            Held c = new Held();
            c.keys = keys.clone();
            c.width = width;
            c.secrecy = secrecy;
            c.fee = fee;
            c.paid = paid;
            c.asked = asked;
            c.forgotten = forgotten;
            for (int[] answer : answers) {
                c.answers.add(answer.clone());
            }
            return c;
        }

        int countKeys() {
            int count = 0;
            for (boolean key : keys) {
                count += key ? 1 : 0;
            }
            return count;
        }

        int[] about(int a, int b) {
            for (int[] answer : answers) {
                if (answer[0] == a && answer[1] == b) {
                    return answer;
                }
            }
            return null;
        }

        int cost(int a, int b) {
            return about(a, b) != null ? 0 : fee + (b - a + 1) / 4;
        }

        int ask(int a, int b) {
            int count = 0;
            for (int i = a; i <= b; i++) {
                count += keys[i] ? 1 : 0;
            }
            int told = count < secrecy ? -2 : count;
            int cost = cost(a, b);
            paid += cost;
            asked++;
            int[] old = about(a, b);
            if (old != null) {
                old[2] = told;
                old[3] = 0;
            } else {
                if (answers.size() == 12) {
                    answers.remove(0);
                    forgotten++;
                }
                answers.add(new int[] {a, b, told, cost});
            }
            return told;
        }

        int write(int i, boolean is) {
            if (keys[i] == is) {
                return 0;
            }
            keys[i] = is;
            int before = answers.size();
            answers.removeIf(answer -> answer[0] <= i && i <= answer[1]);
            forgotten += before - answers.size();
            return before - answers.size();
        }

        int set(int what, int v) {
            int old;
            if (what == 0) {
                old = width;
                width = v;
            } else if (what == 1) {
                old = secrecy;
                secrecy = v;
                if (old != v) {
                    forgetAll();
                }
            } else {
                old = fee;
                fee = v;
            }
            return old;
        }

        void forgetAll() {
            forgotten += answers.size();
            answers.clear();
        }

        List<int[]> bounds(int without) {
            List<int[]> bounds = new ArrayList<>();
            for (int i = 0; i < answers.size(); i++) {
                if (i != without) {
                    int[] answer = answers.get(i);
                    bounds.add(bound(answer[0], answer[1], answer[2]));
                }
            }
            return bounds;
        }

        int[] bound(int a, int b, int told) {
            return told == -2 ? new int[] {a, b, 0, secrecy - 1} : new int[] {a, b, told, told};
        }

        Layouts layouts() {
            return new Layouts(keys.length, bounds(-1));
        }
    }

    private Held now = new Held();
    private final Deque<Held> remembered = new ArrayDeque<>();
    private final Held[] slots = new Held[2];
    private String text = "";

    private boolean place(int i) {
        return 0 <= i && i < now.keys.length;
    }

    private long wrongRange(int a, int b) {
        return !place(a) || !place(b) ? OUTSIDE : b < a ? ARGUMENT : 0;
    }

    private void remember() {
        remembered.addLast(now.copy());
        if (remembered.size() > 14) {
            remembered.removeFirst();
        }
    }

    long append(int c) {
        if (c < 0 || c > 255) {
            return ARGUMENT;
        }
        if (text.length() == 100) {
            return STATE;
        }
        text += (char) c;
        return text.length();
    }

    long clearText() {
        int length = text.length();
        text = "";
        return length;
    }

    /** Every head and every command is written out; the error is where all that could still stand there differ. */
    long errorPosition() {
        List<String> allowed = new ArrayList<>();
        for (int places = 8; places <= 40; places++) {
            allowed.add("K" + two(places));
        }
        int at = 0;
        do {
            String rest = text.substring(at);
            int read = 0;
            boolean whole = false;
            for (String s : allowed) {
                int n = 0;
                while (n < s.length() && n < rest.length() && s.charAt(n) == rest.charAt(n)) {
                    n++;
                }
                read = Math.max(read, n);
                whole |= n == s.length();
            }
            at += read;
            if (!whole) {
                return at;
            }
            if (at == 3) {
                allowed = commands(Integer.parseInt(text.substring(1, 3)));
            }
        } while (at < text.length());
        return -1;
    }

    private static String two(int v) {
        return "" + v / 10 + v % 10;
    }

    private static List<String> commands(int places) {
        List<String> all = new ArrayList<>();
        for (int v = 0; v <= 9; v++) {
            all.add("f" + v);
            if (v <= 4) {
                all.add("s" + v);
            }
            if (v >= 1 && v <= 8) {
                all.add("w" + v);
            }
        }
        for (int a = 0; a < places; a++) {
            all.add("k" + two(a));
            for (int b = a; b < places; b++) {
                all.add("q" + two(a) + two(b));
            }
        }
        return all;
    }

    long load() {
        if (errorPosition() != -1) {
            return STATE;
        }
        now = new Held();
        now.keys = new boolean[Integer.parseInt(text.substring(1, 3))];
        remembered.clear();
        slots[0] = null;
        slots[1] = null;
        int leftOut = 0;
        for (int i = 3; i < text.length();) {
            char c = text.charAt(i);
            if (c == 'k') {
                now.write(Integer.parseInt(text.substring(i + 1, i + 3)), true);
                i += 3;
            } else if (c == 'q') {
                int a = Integer.parseInt(text.substring(i + 1, i + 3));
                int b = Integer.parseInt(text.substring(i + 3, i + 5));
                if (b - a + 1 < now.width) {
                    leftOut++;
                } else {
                    now.ask(a, b);
                }
                i += 5;
            } else {
                now.set("wsf".indexOf(c), text.charAt(i + 1) - '0');
                i += 2;
            }
        }
        return leftOut;
    }

    long about(int what) {
        switch (what) {
            case 0: return now.keys.length;
            case 1: return now.countKeys();
            case 2: return now.width;
            case 3: return now.secrecy;
            case 4: return now.fee;
            case 5: return now.answers.size();
            case 6: return now.paid;
            case 7: return now.asked;
            case 8: return now.forgotten;
            case 9: return now.layouts().countKnown();
            default: return ARGUMENT;
        }
    }

    long has(int i) {
        return !place(i) ? OUTSIDE : now.keys[i] ? 1 : 0;
    }

    long answer(int i, int what) {
        if (i < 0 || i >= now.answers.size()) {
            return OUTSIDE;
        }
        return what < 0 || what > 3 ? ARGUMENT : now.answers.get(i)[what];
    }

    long least(int a, int b) {
        long wrong = wrongRange(a, b);
        return wrong != 0 ? wrong : now.layouts().least(a, b);
    }

    long most(int a, int b) {
        long wrong = wrongRange(a, b);
        return wrong != 0 ? wrong : now.layouts().most(a, b);
    }

    long known(int i) {
        return !place(i) ? OUTSIDE : now.layouts().known(i);
    }

    long knownAt(int i) {
        if (i < 0) {
            return ARGUMENT;
        }
        Layouts layouts = now.layouts();
        List<Integer> known = new ArrayList<>();
        for (int k = 0; k < now.keys.length; k++) {
            if (layouts.known(k) != -1) {
                known.add(k);
            }
        }
        return i < known.size() ? known.get(i) : -1;
    }

    long write(int i, boolean is) {
        if (!place(i)) {
            return OUTSIDE;
        }
        remember();
        return now.write(i, is);
    }

    private static boolean setting(int what, int v) {
        return what == 0 && v >= 1 && v <= 8 || what == 1 && v >= 0 && v <= 4 || what == 2 && v >= 0 && v <= 9;
    }

    long set(int what, int v) {
        if (!setting(what, v)) {
            return ARGUMENT;
        }
        remember();
        return now.set(what, v);
    }

    long ask(int a, int b) {
        long wrong = wrongRange(a, b);
        if (wrong != 0) {
            return wrong;
        }
        if (b - a + 1 < now.width) {
            return STATE;
        }
        remember();
        return now.ask(a, b);
    }

    long forget(int i) {
        if (i < 0 || i >= now.answers.size()) {
            return OUTSIDE;
        }
        remember();
        now.answers.remove(i);
        now.forgotten++;
        return now.answers.size();
    }

    long resize(int places) {
        if (places < 8 || places > 40) {
            return ARGUMENT;
        }
        remember();
        boolean[] keys = new boolean[places];
        for (int i = 0; i < places && i < now.keys.length; i++) {
            keys[i] = now.keys[i];
        }
        now.keys = keys;
        now.forgetAll();
        return now.countKeys();
    }

    long undo() {
        if (remembered.isEmpty()) {
            return STATE;
        }
        now = remembered.removeLast();
        return remembered.size();
    }

    long costs(int a, int b) {
        long wrong = wrongRange(a, b);
        return wrong != 0 ? wrong : b - a + 1 < now.width ? -1 : now.cost(a, b);
    }

    long bestQuestion() {
        Layouts layouts = now.layouts();
        int best = -1;
        int bestOpen = 0;
        for (int a = now.keys.length - 1; a >= 0; a--) {
            for (int b = now.keys.length - 1; b >= a + now.width - 1; b--) {
                int open = layouts.most(a, b) - layouts.least(a, b);
                if (open == 0) {
                    continue;
                }
                if (open > bestOpen || open == bestOpen && now.cost(a, b) <= now.cost(best / 100, best % 100)) {
                    best = 100 * a + b;
                    bestOpen = open;
                }
            }
        }
        return best;
    }

    long worst(int a, int b) {
        long wrong = wrongRange(a, b);
        if (wrong != 0) {
            return wrong;
        }
        if (b - a + 1 < now.width) {
            return -1;
        }
        long fewest = Long.MAX_VALUE;
        for (int told = -2; told <= b - a + 1; told++) {
            if (told == -1 || told == -2 && now.secrecy == 0 || told >= 0 && told < now.secrecy) {
                continue;
            }
            List<int[]> bounds = now.bounds(-1);
            bounds.add(now.bound(a, b, told));
            Layouts layouts = new Layouts(now.keys.length, bounds);
            if (!layouts.none()) {
                fewest = Math.min(fewest, layouts.countKnown());
            }
        }
        return fewest;
    }

    long leastWorth() {
        int best = -1;
        int bestKnown = -1;
        for (int i = now.answers.size() - 1; i >= 0; i--) {
            int known = new Layouts(now.keys.length, now.bounds(i)).countKnown();
            if (known >= bestKnown) {
                best = i;
                bestKnown = known;
            }
        }
        return best;
    }

    long runScript(int n, long script) {
        if (n < 1 || n > 3 || script < 0 || ("" + script).length() > 5 * n) {
            return ARGUMENT;
        }
        String digits = "000000000000000" + script;
        digits = digits.substring(digits.length() - 5 * n);
        Model copy = new Model();
        copy.now = now.copy();
        for (int i = 0; i < n; i++) {
            if (!copy.command(digits.substring(5 * i, 5 * i + 5))) {
                return i;
            }
        }
        return -1;
    }

    private boolean command(String s) {
        int two = Integer.parseInt(s.substring(1, 3));
        int end = Integer.parseInt(s.substring(3));
        if (s.matches("1....")) {
            return ask(two, end) < OUTSIDE;
        }
        if (s.matches("2..[01]0")) {
            return write(two, s.charAt(3) == '1') < OUTSIDE;
        }
        if (s.matches("3..00")) {
            return set(two / 10, two % 10) < OUTSIDE;
        }
        if (s.matches("4..00")) {
            return forget(two) < OUTSIDE;
        }
        if (s.matches("5..0[01]")) {
            return known(two) == end;
        }
        if (s.matches("600..")) {
            return about(9) >= end;
        }
        if (s.matches("70...")) {
            return now.paid <= Integer.parseInt(s.substring(2));
        }
        if (s.matches("800..")) {
            return now.answers.size() >= end;
        }
        return s.matches("900..") && now.countKeys() >= end;
    }

    long simulate(long seed, int m) {
        if (m < 1 || m > 30) {
            return ARGUMENT;
        }
        Held copy = now.copy();
        copy.paid = 0;
        long x = seed;
        for (int i = 0; i < m; i++) {
            x = x * 6364136223846793005L + 1442695040888963407L;
            int r = (int) (x >>> 33);
            int a = r / 8 % copy.keys.length;
            int b = a + (copy.width - 1) + r / 512 % 8;
            if (b < copy.keys.length) {
                copy.ask(a, b);
            } else if (r % 8 == 0) {
                copy.write(a, !copy.keys[a]);
            }
        }
        return 1000L * copy.layouts().countKnown() + Math.min(copy.paid, 999);
    }

    long save(int slot) {
        if (slot < 0 || slot > 1) {
            return OUTSIDE;
        }
        slots[slot] = now.copy();
        return now.answers.size();
    }

    long restore(int slot) {
        if (slot < 0 || slot > 1) {
            return OUTSIDE;
        }
        if (slots[slot] == null) {
            return STATE;
        }
        now = slots[slot].copy();
        remembered.clear();
        return now.answers.size();
    }
}
