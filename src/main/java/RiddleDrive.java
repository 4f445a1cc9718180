/**
 * A drive of keys that tells how many keys there are in a wide range, but not how few, and an asker that keeps the
 * answers and works out from all of them together which places must have a key and which cannot.
 */
public final class RiddleDrive {
    public static final int NONE = -1;
    public static final int FEW = -2;

    private static final int LEAST_PLACES = 8;
    private static final int MOST_PLACES = 40;
    private static final int FIRST_PLACES = 16;
    private static final int MOST_SIGNS = 100;
    private static final int MOST_ANSWERS = 12;
    private static final int MOST_REMEMBERED = 14;
    private static final int MOST_COMMANDS = 3;
    private static final int MOST_SIMULATED = 30;
    private static final int SLOTS = 2;

    /** What an answer consists of, by the numbers that answer() takes. */
    private static final int FIRST = 0;
    private static final int LAST = 1;
    private static final int TOLD = 2;
    private static final int PRICE = 3;
    private static final int CELLS = 4;

    private static final int WIDTH = 0;
    private static final int SECRECY = 1;
    private static final int FEE = 2;

    private final Text text = new Text();
    private final Drive now = new Drive();
    /** The copy on which texts, scripts and simulations run, made once and used again. */
    private final Drive trial = new Drive();
    private final Knowledge knowledge = new Knowledge();
    private final Memory memory = new Memory();
    /** A slot is null while nothing is saved in it. */
    private final Drive[] slots = new Drive[SLOTS];

    public RiddleDrive() {
        now.makeNew(FIRST_PLACES);
    }

    // ---- text

    public int append(int c) throws IllegalArgumentException, IllegalStateException {
        if (c < 0 || c > 255) {
            throw new IllegalArgumentException("not a character");
        }
        if (text.isFull()) {
            throw new IllegalStateException("the text is full");
        }
        return text.add((char) c);
    }

    public int clearText() {
        return text.empty();
    }

    public int errorPosition() {
        return text.readInto(trial) ? NONE : text.position();
    }

    public int load() throws IllegalStateException {
        if (!text.readInto(trial)) {
            throw new IllegalStateException("the text is not a drive");
        }
        now.takeFrom(trial);
        memory.forgetStates();
        for (int i = 0; i < slots.length; i++) {
            slots[i] = null;
        }
        return text.questionsLeftOut();
    }

    // ---- what there is

    public int about(int what) throws IllegalArgumentException {
        switch (what) {
            case 0: return now.places;
            case 1: return now.countKeys();
            case 2: return now.width;
            case 3: return now.secrecy;
            case 4: return now.fee;
            case 5: return now.answers;
            case 6: return now.paid;
            case 7: return now.asked;
            case 8: return now.forgotten;
            case 9:
                knowledge.learnFrom(now, NONE);
                return knowledge.countSure();
            default: throw new IllegalArgumentException("no such number");
        }
    }

    public boolean has(int i) throws IndexOutOfBoundsException {
        checkPlace(i);
        return now.hasKey(i);
    }

    public int answer(int i, int what) throws IndexOutOfBoundsException, IllegalArgumentException {
        checkAnswer(i);
        if (what < 0 || what >= CELLS) {
            throw new IllegalArgumentException("no such number of an answer");
        }
        return now.cell(i, what);
    }

    // ---- what is known

    public int least(int a, int b) throws IndexOutOfBoundsException, IllegalArgumentException {
        checkRange(a, b);
        knowledge.learnFrom(now, NONE);
        return knowledge.fewestKeys(a, b);
    }

    public int most(int a, int b) throws IndexOutOfBoundsException, IllegalArgumentException {
        checkRange(a, b);
        knowledge.learnFrom(now, NONE);
        return knowledge.greatestKeys(a, b);
    }

    public int known(int i) throws IndexOutOfBoundsException {
        checkPlace(i);
        knowledge.learnFrom(now, NONE);
        return knowledge.sure(i);
    }

    public int knownAt(int i) throws IllegalArgumentException {
        if (i < 0) {
            throw new IllegalArgumentException("negative");
        }
        knowledge.learnFrom(now, NONE);
        return knowledge.surePlace(i);
    }

    // ---- actions

    public int write(int i, boolean is) throws IndexOutOfBoundsException {
        checkPlace(i);
        memory.remember(now);
        return now.putKey(i, is);
    }

    public int set(int what, int v) throws IllegalArgumentException {
        if (!isSetting(what, v)) {
            throw new IllegalArgumentException("no such setting");
        }
        memory.remember(now);
        return now.change(what, v);
    }

    public int ask(int a, int b) throws IndexOutOfBoundsException, IllegalArgumentException, IllegalStateException {
        checkRange(a, b);
        if (now.isNarrow(a, b)) {
            throw new IllegalStateException("the range is too narrow");
        }
        memory.remember(now);
        return now.question(a, b);
    }

    public int forget(int i) throws IndexOutOfBoundsException {
        checkAnswer(i);
        memory.remember(now);
        now.drop(i);
        return now.answers;
    }

    public int resize(int places) throws IllegalArgumentException {
        if (places < LEAST_PLACES || places > MOST_PLACES) {
            throw new IllegalArgumentException("no such number of places");
        }
        memory.remember(now);
        now.cutTo(places);
        return now.countKeys();
    }

    public int undo() throws IllegalStateException {
        if (memory.isEmpty()) {
            throw new IllegalStateException("nothing is remembered");
        }
        return memory.takeBack(now);
    }

    // ---- what would be

    public int costs(int a, int b) throws IndexOutOfBoundsException, IllegalArgumentException {
        checkRange(a, b);
        return now.isNarrow(a, b) ? NONE : now.price(a, b);
    }

    public int bestQuestion() {
        knowledge.learnFrom(now, NONE);
        int best = NONE;
        int bestOpen = 0;
        int bestPrice = 0;
        for (int a = 0; a < now.places; a++) {
            for (int b = a + now.width - 1; b < now.places; b++) {
                int open = knowledge.greatestKeys(a, b) - knowledge.fewestKeys(a, b);
                if (open > bestOpen || open == bestOpen && open > 0 && now.price(a, b) < bestPrice) {
                    best = 100 * a + b;
                    bestOpen = open;
                    bestPrice = now.price(a, b);
                }
            }
        }
        return best;
    }

    public int worst(int a, int b) throws IndexOutOfBoundsException, IllegalArgumentException {
        checkRange(a, b);
        if (now.isNarrow(a, b)) {
            return NONE;
        }
        knowledge.learnFrom(now, NONE);
        int few = knowledge.fewestKeys(a, b);
        int many = knowledge.greatestKeys(a, b);
        int fewestSure = now.places;
        if (few < now.secrecy) {
            fewestSure = knowledge.countSureBehind(a, b, 0, now.secrecy - 1);
        }
        // between the least and the most of a range every number of keys is possible
        for (int keys = Math.max(few, now.secrecy); keys <= many; keys++) {
            fewestSure = Math.min(fewestSure, knowledge.countSureBehind(a, b, keys, keys));
        }
        return fewestSure;
    }

    public int leastWorth() {
        int found = NONE;
        int mostSure = -1;
        for (int i = 0; i < now.answers; i++) {
            knowledge.learnFrom(now, i);
            int sure = knowledge.countSure();
            if (sure > mostSure) {
                mostSure = sure;
                found = i;
            }
        }
        return found;
    }

    // ---- scripts, simulations

    public int runScript(int n, long script) throws IllegalArgumentException {
        if (n < 1 || n > MOST_COMMANDS) {
            throw new IllegalArgumentException("no such number of commands");
        }
        if (script < 0 || groupsAbove(script, n) > 0) {
            throw new IllegalArgumentException("not a script");
        }
        trial.takeFrom(now);
        for (int i = 0; i < n; i++) {
            if (!succeeds((int) (groupsAbove(script, n - 1 - i) % 100000))) {
                return i;
            }
        }
        return NONE;
    }

    public int simulate(long seed, int m) throws IllegalArgumentException {
        if (m < 1 || m > MOST_SIMULATED) {
            throw new IllegalArgumentException("no such number of questions");
        }
        trial.takeFrom(now);
        long x = seed;
        for (int i = 0; i < m; i++) {
            x = x * 6364136223846793005L + 1442695040888963407L;
            simulateOne((int) (x >>> 33));
        }
        knowledge.learnFrom(trial, NONE);
        return 1000 * knowledge.countSure() + Math.min(trial.paid - now.paid, 999);
    }

    // ---- save slots

    public int save(int slot) throws IndexOutOfBoundsException {
        checkSlot(slot);
        Drive saved = slots[slot];
        if (saved == null) {
            saved = new Drive();
            slots[slot] = saved;
        }
        saved.takeFrom(now);
        return now.answers;
    }

    public int restore(int slot) throws IndexOutOfBoundsException, IllegalStateException {
        checkSlot(slot);
        Drive saved = slots[slot];
        if (saved == null) {
            throw new IllegalStateException("nothing is saved");
        }
        now.takeFrom(saved);
        memory.forgetStates();
        return now.answers;
    }

    // ---- checks

    private void checkPlace(int i) {
        if (!now.isPlace(i)) {
            throw new IndexOutOfBoundsException("no such place");
        }
    }

    private void checkRange(int a, int b) {
        checkPlace(a);
        checkPlace(b);
        if (b < a) {
            throw new IllegalArgumentException("the last place is before the first");
        }
    }

    private void checkAnswer(int i) {
        if (!now.isAnswer(i)) {
            throw new IndexOutOfBoundsException("no such answer");
        }
    }

    private void checkSlot(int slot) {
        if (slot < 0 || slot >= slots.length) {
            throw new IndexOutOfBoundsException("no such save slot");
        }
    }

    private static boolean isSetting(int what, int v) {
        switch (what) {
            case WIDTH: return v >= 1 && v <= 8;
            case SECRECY: return v >= 0 && v <= 4;
            case FEE: return v >= 0 && v <= 9;
            default: return false;
        }
    }

    // ---- parts of scripts and simulations

    /** The script without its lowest groups. */
    private static long groupsAbove(long script, int groups) {
        long rest = script;
        for (int i = 0; i < groups; i++) {
            rest /= 100000;
        }
        return rest;
    }

    private boolean succeeds(int group) {
        int high = group / 100 % 100;
        int low = group % 100;
        switch (group / 10000) {
            case 1: return tryQuestion(high, low);
            case 2: return tryKey(high, low);
            case 3: return low == 0 && trySetting(high / 10, high % 10);
            case 4: return low == 0 && tryDrop(high);
            case 5: return isSure(high, low);
            case 6: return high == 0 && countSureOfTrial() >= low;
            case 7: return high < 10 && trial.paid <= 100 * high + low;
            case 8: return high == 0 && trial.answers >= low;
            case 9: return high == 0 && trial.countKeys() >= low;
            default: return false;
        }
    }

    private boolean tryQuestion(int a, int b) {
        if (!trial.isPlace(a) || !trial.isPlace(b) || b < a || trial.isNarrow(a, b)) {
            return false;
        }
        trial.question(a, b);
        return true;
    }

    private boolean tryKey(int i, int what) {
        if (!trial.isPlace(i) || what != 0 && what != 10) {
            return false;
        }
        trial.putKey(i, what == 10);
        return true;
    }

    private boolean trySetting(int what, int v) {
        if (!isSetting(what, v)) {
            return false;
        }
        trial.change(what, v);
        return true;
    }

    private boolean tryDrop(int i) {
        if (!trial.isAnswer(i)) {
            return false;
        }
        trial.drop(i);
        return true;
    }

    private boolean isSure(int i, int what) {
        if (!trial.isPlace(i) || what > 1) {
            return false;
        }
        knowledge.learnFrom(trial, NONE);
        return knowledge.sure(i) == what;
    }

    private int countSureOfTrial() {
        knowledge.learnFrom(trial, NONE);
        return knowledge.countSure();
    }

    private void simulateOne(int r) {
        int places = trial.places;
        int a = places > 0 ? r / 8 % places : 0;
        int b = a + trial.width - 1 + r / 512 % 8;
        if (b < places) {
            trial.question(a, b);
        } else if (r % 8 == 0) {
            trial.putKey(a, !trial.hasKey(a));
        }
    }

    /** The state: the drive with its keys and settings, the answers that are kept, and what is counted. */
    private static final class Drive {
        int places;
        int width;
        int secrecy;
        int fee;
        int answers;
        int paid;
        int asked;
        int forgotten;
        /** One bit for each place. */
        private long keys;
        /** Four cells for each answer, the oldest answer first. */
        private final int[] cells = new int[MOST_ANSWERS * CELLS];

        void makeNew(int newPlaces) {
            places = newPlaces;
            width = 3;
            secrecy = 2;
            fee = 1;
            answers = 0;
            paid = 0;
            asked = 0;
            forgotten = 0;
            keys = 0;
        }

        void takeFrom(Drive other) {
            places = other.places;
            width = other.width;
            secrecy = other.secrecy;
            fee = other.fee;
            answers = other.answers;
            paid = other.paid;
            asked = other.asked;
            forgotten = other.forgotten;
            keys = other.keys;
            for (int i = 0; i < cells.length && i < other.cells.length; i++) {
                cells[i] = other.cells[i];
            }
        }

        boolean isPlace(int i) {
            return i >= 0 && i < places;
        }

        boolean isAnswer(int i) {
            return i >= 0 && i < answers;
        }

        boolean isNarrow(int a, int b) {
            return b - a + 1 < width;
        }

        boolean hasKey(int i) {
            return ((keys >>> i) & 1) == 1;
        }

        int countKeys() {
            return Long.bitCount(keys);
        }

        int cell(int i, int what) {
            int at = i * CELLS + what;
            return at >= 0 && at < cells.length ? cells[at] : NONE;
        }

        /** The fewest keys that the range of an answer has by this answer alone. */
        int fewestTold(int i) {
            int told = cell(i, TOLD);
            return told == FEW ? 0 : told;
        }

        int greatestTold(int i) {
            int told = cell(i, TOLD);
            return told == FEW ? secrecy - 1 : told;
        }

        int price(int a, int b) {
            return answerAbout(a, b) == NONE ? fullPrice(a, b) : 0;
        }

        private int fullPrice(int a, int b) {
            return fee + (b - a + 1) / 4;
        }

        private int answerAbout(int a, int b) {
            for (int i = 0; i < answers; i++) {
                if (cell(i, FIRST) == a && cell(i, LAST) == b) {
                    return i;
                }
            }
            return NONE;
        }

        private int tell(int a, int b) {
            long range = (1L << (b - a + 1)) - 1;
            int count = Long.bitCount((keys >>> a) & range);
            return count < secrecy ? FEW : count;
        }

        int question(int a, int b) {
            int told = tell(a, b);
            int price = 0;
            int i = answerAbout(a, b);
            if (i == NONE) {
                price = fullPrice(a, b);
                i = makeRoom();
            }
            putCell(i, FIRST, a);
            putCell(i, LAST, b);
            putCell(i, TOLD, told);
            putCell(i, PRICE, price);
            paid += price;
            asked++;
            return told;
        }

        private int makeRoom() {
            if (answers >= MOST_ANSWERS) {
                drop(0);
            }
            answers++;
            return answers - 1;
        }

        private void putCell(int i, int what, int v) {
            int at = i * CELLS + what;
            if (at >= 0 && at < cells.length) {
                cells[at] = v;
            }
        }

        void drop(int i) {
            for (int at = Math.max(0, i * CELLS); at + CELLS < cells.length; at++) {
                cells[at] = cells[at + CELLS];
            }
            answers--;
            forgotten++;
        }

        private void dropAll() {
            forgotten += answers;
            answers = 0;
        }

        int putKey(int i, boolean is) {
            if (hasKey(i) == is) {
                return 0;
            }
            keys ^= 1L << i;
            int before = answers;
            // from the newest on, so that dropping one moves none that is still to be looked at
            for (int k = before - 1; k >= 0; k--) {
                if (cell(k, FIRST) <= i && i <= cell(k, LAST)) {
                    drop(k);
                }
            }
            return before - answers;
        }

        int change(int what, int v) {
            int previous;
            if (what == WIDTH) {
                previous = width;
                width = v;
            } else if (what == SECRECY) {
                previous = secrecy;
                secrecy = v;
                if (v != previous) {
                    dropAll();
                }
            } else {
                previous = fee;
                fee = v;
            }
            return previous;
        }

        void cutTo(int newPlaces) {
            places = newPlaces;
            keys &= (1L << newPlaces) - 1;
            dropAll();
        }
    }

    /**
     * What all answers tell together. Point i is the border before place i, and a range lies between two points. Each
     * answer bounds by how much the number of keys before one point can exceed that before another; such bounds add up
     * along ways of points, and the smallest sum is the exact bound, because all of them are whole numbers.
     */
    private static final class Knowledge {
        private static final int POINTS = MOST_PLACES + 1;

        private int places;
        /** For points x and y: by how much at most the keys before y exceed those before x. */
        private final int[] excess = new int[POINTS * POINTS];

        /** Takes all answers but one (NONE: all). */
        void learnFrom(Drive drive, int without) {
            places = drive.places;
            learnNothing();
            for (int i = 0; i < drive.answers; i++) {
                if (i != without) {
                    int from = drive.cell(i, FIRST);
                    int to = drive.cell(i, LAST) + 1;
                    bound(from, to, drive.greatestTold(i));
                    bound(to, from, -drive.fewestTold(i));
                }
            }
        }

        private void learnNothing() {
            for (int x = 0; x <= places; x++) {
                for (int y = 0; y <= places; y++) {
                    putExcess(x, y, Math.max(0, y - x));
                }
            }
        }

        /** One round is enough, because the bounds before it are exact and no smallest way uses the new one twice. */
        private void bound(int from, int to, int limit) {
            for (int x = 0; x <= places; x++) {
                int way = excessOf(x, from) + limit;
                if (way < excessOf(x, to)) {
                    shorten(x, to, way);
                }
            }
        }

        private void shorten(int x, int via, int way) {
            for (int y = 0; y <= places; y++) {
                int whole = way + excessOf(via, y);
                if (whole < excessOf(x, y)) {
                    putExcess(x, y, whole);
                }
            }
        }

        private int excessOf(int x, int y) {
            int at = x * POINTS + y;
            return at >= 0 && at < excess.length ? excess[at] : 0;
        }

        private void putExcess(int x, int y, int v) {
            int at = x * POINTS + y;
            if (at >= 0 && at < excess.length) {
                excess[at] = v;
            }
        }

        int fewestKeys(int a, int b) {
            return -excessOf(b + 1, a);
        }

        int greatestKeys(int a, int b) {
            return excessOf(a, b + 1);
        }

        int sure(int i) {
            int few = fewestKeys(i, i);
            return few == greatestKeys(i, i) ? few : NONE;
        }

        int countSure() {
            int count = 0;
            for (int i = 0; i < places; i++) {
                if (sure(i) != NONE) {
                    count++;
                }
            }
            return count;
        }

        int surePlace(int number) {
            int left = number;
            for (int i = 0; i < places; i++) {
                if (sure(i) != NONE) {
                    if (left == 0) {
                        return i;
                    }
                    left--;
                }
            }
            return NONE;
        }

        /** How many places would be known if the range from a to b were known to have from few to many keys. */
        int countSureBehind(int a, int b, int few, int many) {
            int count = 0;
            for (int i = 0; i < places; i++) {
                int greatest = excessBehind(i, i + 1, a, b + 1, few, many);
                int fewest = -excessBehind(i + 1, i, a, b + 1, few, many);
                if (greatest == fewest) {
                    count++;
                }
            }
            return count;
        }

        private int excessBehind(int x, int y, int from, int to, int few, int many) {
            int forward = excessOf(x, from) + many + excessOf(to, y);
            int backward = excessOf(x, to) - few + excessOf(from, y);
            return Math.min(excessOf(x, y), Math.min(forward, backward));
        }
    }

    /** The states before the last actions, in a ring, so that the oldest one is overwritten first. */
    private static final class Memory {
        private final Drive[] ring = new Drive[MOST_REMEMBERED];
        private int next;
        private int count;

        boolean isEmpty() {
            return count == 0;
        }

        void forgetStates() {
            count = 0;
        }

        void remember(Drive drive) {
            if (next < 0 || next >= ring.length) {
                return;
            }
            Drive state = ring[next];
            if (state == null) {
                state = new Drive();
                ring[next] = state;
            }
            state.takeFrom(drive);
            next = next + 1 < ring.length ? next + 1 : 0;
            count = Math.min(count + 1, ring.length);
        }

        /** Gives the newest state to the drive and tells how many are left. */
        int takeBack(Drive drive) {
            int newest = next > 0 ? next - 1 : ring.length - 1;
            if (count > 0 && newest >= 0 && newest < ring.length) {
                Drive state = ring[newest];
                if (state != null) {
                    drive.takeFrom(state);
                }
                next = newest;
                count--;
            }
            return count;
        }
    }

    /** The text buffer, and its reader. */
    private static final class Text {
        private final char[] signs = new char[MOST_SIGNS];
        private int length;
        /** Where the reader stands: behind all that it has allowed. */
        private int position;
        private int leftOut;

        boolean isFull() {
            return length >= signs.length;
        }

        int add(char c) {
            if (length >= 0 && length < signs.length) {
                signs[length] = c;
                length++;
            }
            return length;
        }

        int empty() {
            int before = length;
            length = 0;
            return before;
        }

        int position() {
            return position;
        }

        int questionsLeftOut() {
            return leftOut;
        }

        /** Tells whether the text is a drive; if it is not, the drive is left in between and the reader at the error. */
        boolean readInto(Drive drive) {
            position = 0;
            leftOut = 0;
            if (sign() != 'K') {
                return false;
            }
            position++;
            int places = readNumber(LEAST_PLACES, MOST_PLACES);
            if (places == NONE) {
                return false;
            }
            drive.makeNew(places);
            for (int i = 0; i < MOST_SIGNS && position < length; i++) {
                if (!readCommand(drive)) {
                    return false;
                }
            }
            return true;
        }

        private boolean readCommand(Drive drive) {
            switch (sign()) {
                case 'k': return readKey(drive);
                case 'w': return readSetting(drive, WIDTH, 1, 8);
                case 's': return readSetting(drive, SECRECY, 0, 4);
                case 'f': return readSetting(drive, FEE, 0, 9);
                case 'q': return readQuestion(drive);
                default: return false;
            }
        }

        private boolean readKey(Drive drive) {
            position++;
            int i = readNumber(0, drive.places - 1);
            if (i == NONE) {
                return false;
            }
            drive.putKey(i, true);
            return true;
        }

        private boolean readSetting(Drive drive, int what, int low, int high) {
            position++;
            int v = readDigit(low, high);
            if (v == NONE) {
                return false;
            }
            drive.change(what, v);
            return true;
        }

        private boolean readQuestion(Drive drive) {
            position++;
            int a = readNumber(0, drive.places - 1);
            if (a == NONE) {
                return false;
            }
            int b = readNumber(a, drive.places - 1);
            if (b == NONE) {
                return false;
            }
            if (drive.isNarrow(a, b)) {
                leftOut++;
            } else {
                drive.question(a, b);
            }
            return true;
        }

        /** Reads a number of two digits; NONE if it is not from low to high. */
        private int readNumber(int low, int high) {
            int tens = readDigit(low / 10, high / 10);
            if (tens == NONE) {
                return NONE;
            }
            int ones = readDigit(Math.max(0, low - 10 * tens), Math.min(9, high - 10 * tens));
            return ones == NONE ? NONE : 10 * tens + ones;
        }

        private int readDigit(int low, int high) {
            int digit = sign() - '0';
            if (digit < low || digit > high) {
                return NONE;
            }
            position++;
            return digit;
        }

        /** The sign where the reader stands; NONE, which no sign is, behind the end. */
        private int sign() {
            return position >= 0 && position < length && position < signs.length ? signs[position] : NONE;
        }
    }
}
