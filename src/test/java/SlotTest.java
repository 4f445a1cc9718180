/** Promises 25 and 26: save, restore. */
public final class SlotTest {
    public static void main(String[] args) {
        slotsKeepStates();
        restoreForgetsRememberedStates();
        saveIsNoAction();
        loadEmptiesSlots();
        textIsNotSaved();
        refused();
        Check.end("SlotTest");
    }

    private static void slotsKeepStates() {
        RiddleDrive x = Check.drive("K12w1s1f3k03q0205q0308");
        String first = Check.look(x);
        Check.due("save(0)", x.save(0), 2);
        x.resize(40);
        x.write(39, true);
        x.set(0, 8);
        x.set(1, 4);
        x.set(2, 9);
        x.ask(0, 39);
        String second = Check.look(x);
        Check.due("save(1)", x.save(1), 1);
        x.resize(8);
        Check.due("restore(0)", x.restore(0), 2);
        Check.same("the first state", Check.look(x), first);
        x.write(0, true);
        x.ask(1, 1);
        Check.due("restore(1)", x.restore(1), 1);
        Check.same("the second state", Check.look(x), second);
        x.forget(0);
        Check.due("restore(0) again", x.restore(0), 2);
        Check.same("the slot keeps it", Check.look(x), first);
        x.write(0, true);
        Check.due("save(0) again", x.save(0), 2);
        String third = Check.look(x);
        x.write(3, false);
        Check.due("restore(0) of what was saved last", x.restore(0), 2);
        Check.same("the third state", Check.look(x), third);
        Check.due("the other slot is as before", x.restore(1), 1);
        Check.same("the second state again", Check.look(x), second);
    }

    private static void restoreForgetsRememberedStates() {
        RiddleDrive x = new RiddleDrive();
        x.write(3, true);
        x.save(0);
        x.write(4, true);
        x.restore(0);
        Check.state(x, "undo behind restore", x::undo);
        x.write(5, true);
        Check.due("undo of the action behind restore", x.undo(), 0);
        Check.due("keys", x.about(1), 1);
        Check.due("restore is no action", x.restore(0), 0);
    }

    private static void saveIsNoAction() {
        RiddleDrive x = new RiddleDrive();
        x.write(3, true);
        x.save(0);
        x.save(1);
        Check.due("undo behind save", x.undo(), 0);
        Check.due("keys", x.about(1), 0);
        Check.due("undo leaves the slots", x.restore(1), 0);
        Check.due("keys", x.about(1), 1);
    }

    private static void loadEmptiesSlots() {
        RiddleDrive x = new RiddleDrive();
        x.save(0);
        Check.type(x, "K12");
        x.load();
        Check.state(x, "restore(0) behind load", () -> x.restore(0));
        x.save(1);
        Check.due("restore of what was saved behind load", x.restore(1), 0);
        Check.state(x, "restore(0) still", () -> x.restore(0));
    }

    private static void textIsNotSaved() {
        RiddleDrive x = new RiddleDrive();
        x.append('K');
        x.save(0);
        x.append('1');
        x.write(0, true);
        x.append('2');
        x.undo();
        Check.due("undo leaves the text", x.errorPosition(), -1);
        x.restore(0);
        Check.due("restore leaves the text", x.append('k'), 4);
    }

    private static void refused() {
        RiddleDrive x = Check.drive("K12k03q0205");
        for (int slot : new int[] {-1, 2, 3, Integer.MIN_VALUE, Integer.MAX_VALUE}) {
            Check.outside(x, "save " + slot, () -> x.save(slot));
            Check.outside(x, "restore " + slot, () -> x.restore(slot));
        }
        x.save(1);
        x.write(3, false);
        Check.state(x, "restore(0)", () -> x.restore(0));
        Check.due("a refused restore leaves the remembered states", x.undo(), 0);
    }
}
