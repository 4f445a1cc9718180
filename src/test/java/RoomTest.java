import java.lang.management.ManagementFactory;

/** LANGUAGE.md, rule 12: what a run makes is small. Many calls on one object make next to nothing. */
public final class RoomTest {
    private static final int ROUNDS = 32;
    private static final int CALLS = 16;
    private static final long MOST_BYTES = 100_000;

    public static void main(String[] args) {
        com.sun.management.ThreadMXBean bean = (com.sun.management.ThreadMXBean) ManagementFactory.getThreadMXBean();
        long thread = Thread.currentThread().getId();
        use(new RiddleDrive());
        long before = bean.getThreadAllocatedBytes(thread);
        RiddleDrive x = new RiddleDrive();
        for (int i = 0; i < ROUNDS; i++) {
            use(x);
        }
        long made = bean.getThreadAllocatedBytes(thread) - before;
        Check.due("an object and " + CALLS * ROUNDS + " calls make at most " + MOST_BYTES + " bytes, not " + made,
            made <= MOST_BYTES, true);
        Check.end("RoomTest");
    }

    /** The dearest calls, and one of each kind that keeps something. */
    private static void use(RiddleDrive x) {
        x.append('K');
        x.errorPosition();
        x.resize(40);
        x.ask(0, 39);
        x.ask(3, 20);
        x.write(5, !x.has(5));
        x.bestQuestion();
        x.worst(0, 30);
        x.leastWorth();
        x.runScript(3, 100392051060001L);
        x.simulate(5, 30);
        x.save(0);
        x.undo();
        x.restore(0);
        x.clearText();
    }
}
