/** Promises 25 and 26: save, restore. */
public final class SlotTest {
    private static final int[] NO_SLOTS = {-1, 2, 3, Integer.MIN_VALUE, Integer.MAX_VALUE};

    public static void main(String[] args) {
        String s = "Promise 25";
        Check.sentence(s, "Stores the present state in a save slot. ", SlotTest::saveStores);
        Check.sentence(s, "slot: 0 or 1", SlotTest::saveSlots);
        Check.sentence(s, "Returns the number of answers that are kept.", SlotTest::saveCounts);
        Check.sentence(s, "Throws IndexOutOfBoundsException if there is no such save slot", SlotTest::saveRefuses);
        s = "Promise 26";
        Check.sentence(s, "Replaces the state by the one in a save slot, ", SlotTest::restoreReplaces);
        Check.sentence(s, "and forgets all remembered states. ", SlotTest::restoreForgets);
        Check.sentence(s, "The save slot keeps it.", SlotTest::slotKeeps);
        Check.sentence(s, "slot: 0 or 1", SlotTest::restoreSlots);
        Check.sentence(s, "Returns the number of answers that are kept then.", SlotTest::restoreCounts);
        Check.sentence(s, "Throws IndexOutOfBoundsException if there is no such save slot", SlotTest::restoreOutside);
        Check.sentence(s, "Throws IllegalStateException if nothing has been saved in it since the last load",
            SlotTest::restoreOfNothing);
        Check.end("SlotTest", "Promise 25", "Promise 26");
    }

    // ---- promise 25

    private static void saveStores() {
        RiddleDrive x = Check.busy();
        x.save(0);
        Check.same("the state stays", Check.look(x), Check.look(Check.busy()));
        Check.due("no action, and no state is forgotten", x.undo(), 3);
        Check.same("what was saved is the state then", Check.look(restored(x, 0)), Check.look(Check.busy()));
        RiddleDrive y = Check.drive("K12k03");
        y.save(0);
        y.write(3, false);
        y.save(0);
        y.write(5, true);
        Check.due("saved once more", restored(y, 0).about(1), 0);
    }

    private static RiddleDrive restored(RiddleDrive x, int slot) {
        x.restore(slot);
        return x;
    }

    private static void saveSlots() {
        RiddleDrive x = new RiddleDrive();
        x.write(3, true);
        x.save(0);
        x.write(4, true);
        x.save(1);
        x.write(5, true);
        Check.same("slot 0", Check.keys(restored(x, 0)), "0001000000000000");
        Check.same("slot 1", Check.keys(restored(x, 1)), "0001100000000000");
        x.resize(8);
        x.save(0);
        Check.same("slot 1 still", Check.keys(restored(x, 1)), "0001100000000000");
        Check.same("slot 0 now", Check.keys(restored(x, 0)), "00011000");
    }

    private static void saveCounts() {
        Check.due("none", new RiddleDrive().save(0), 0);
        Check.due("two", Check.busy().save(1), 2);
        Check.due("12", QuestionTest.full().save(0), 12);
    }

    private static void saveRefuses() {
        for (int slot : NO_SLOTS) {
            Check.outside(Check::busy, "save " + slot, x -> x.save(slot));
        }
    }

    // ---- promise 26

    private static void restoreReplaces() {
        RiddleDrive x = Check.drive("K12w1s1f3k03q0205q0308");
        String first = Check.look(x);
        x.save(0);
        x.resize(40);
        x.write(39, true);
        x.set(0, 8);
        x.set(1, 4);
        x.set(2, 9);
        x.ask(0, 39);
        x.save(1);
        Check.same("the first state", Check.look(restored(x, 0)), first);
        Check.same("the second state", Check.look(restored(x, 1)), "about 40 2 8 4 9 1 27 3 2 0 keys "
            + "0001000000000000000000000000000000000001 known ???????????????????????????????????????? answers "
            + "0-39=-2:19");
    }

    private static void restoreForgets() {
        Check.state(() -> restored(Check.busy(), 0), "undo behind restore(0)", RiddleDrive::undo);
        Check.state(() -> restored(Check.crowded(), 1), "undo behind restore(1)", RiddleDrive::undo);
        RiddleDrive x = restored(Check.busy(), 0);
        x.write(0, true);
        Check.due("an action behind it", x.undo(), 0);
        Check.same("is taken back", Check.look(x), Check.look(restored(Check.busy(), 0)));
    }

    private static void slotKeeps() {
        RiddleDrive x = Check.busy();
        x.restore(0);
        String first = Check.look(x);
        x.write(0, true);
        x.ask(0, 11);
        x.resize(8);
        x.set(2, 0);
        Check.same("slot 0 again", Check.look(restored(x, 0)), first);
        x.restore(1);
        x.write(0, true);
        x.undo();
        Check.same("slot 0 behind undo", Check.look(restored(x, 0)), first);
    }

    private static void restoreSlots() {
        RiddleDrive x = Check.busy();
        Check.due("slot 0", restored(x, 0).about(1), 2);
        Check.due("slot 1", restored(x, 1).about(1), 3);
        Check.due("slot 0 again", restored(x, 0).about(1), 2);
    }

    private static void restoreCounts() {
        RiddleDrive x = new RiddleDrive();
        x.save(0);
        x.ask(0, 15);
        x.save(1);
        Check.due("none", x.restore(0), 0);
        Check.due("one", x.restore(1), 1);
        RiddleDrive y = QuestionTest.full();
        y.save(1);
        y.resize(8);
        Check.due("12", y.restore(1), 12);
    }

    private static void restoreOutside() {
        for (int slot : NO_SLOTS) {
            Check.outside(Check::busy, "restore " + slot, x -> x.restore(slot));
            Check.outside(RiddleDrive::new, "restore of nothing " + slot, x -> x.restore(slot));
        }
    }

    private static RiddleDrive saved(int slot) {
        RiddleDrive x = Check.drive("K12k03q0205");
        x.write(4, true);
        x.save(slot);
        return x;
    }

    private static void restoreOfNothing() {
        for (int slot = 0; slot <= 1; slot++) {
            int number = slot;
            Check.state(RiddleDrive::new, "a new object", x -> x.restore(number));
            Check.state(() -> Check.drive("K12"), "behind load", x -> x.restore(number));
            Check.state(() -> saved(1 - number), "the other slot is full", x -> x.restore(number));
            Check.state(() -> loaded(saved(number)), "full before load", x -> x.restore(number));
            Check.passes(() -> saved(number), "full", x -> x.restore(number));
            RiddleDrive x = loaded(saved(number));
            x.save(number);
            Check.due("full again behind load", x.restore(number), 1);
            Check.state(() -> refusedLoad(number), "the other slot behind a refused load", z -> z.restore(1 - number));
            Check.passes(() -> refusedLoad(number), "behind a refused load", z -> z.restore(number));
        }
    }

    private static RiddleDrive loaded(RiddleDrive x) {
        x.load();
        return x;
    }

    private static RiddleDrive refusedLoad(int slot) {
        RiddleDrive x = saved(slot);
        x.append('?');
        try {
            x.load();
            Check.due("the load is refused", false, true);
        } catch (IllegalStateException e) {
            return x;
        }
        return x;
    }
}
