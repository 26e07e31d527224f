/** Promises 23 to 25: undo, save, restore. */
public final class HistoryTest {
    private static final Check check = new Check("HistoryTest");

    public static void main(String[] args) {
        undoEachChange();
        sixStates();
        noDifference();
        save();
        restore();
        slotsAndHistoryAreApart();
        check.end();
    }

    private static void undoEachChange() {
        ShuttleDoors x = new ShuttleDoors();
        check.same("nothing to undo", x.undo(), -105);
        x.set(ShuttleDoors.PATIENCE, 1);
        check.same("undo set", x.undo(), 0);
        check.same("patience", x.count(1), 60);
        x.land(2, 5);
        x.undo();
        check.same("land", x.flight(2, 0), 120);
        x.delay(2, 5);
        x.undo();
        check.same("delay", x.flight(2, 1), 0);
        x.van(2, 5, 4);
        x.undo();
        check.same("leaves", x.vanOf(2, 0), 180);
        check.same("seats", x.vanOf(2, 1), 6);
        x.ride(1, 2, 3, 4);
        x.undo();
        check.same("ride", x.count(5), 0);
        x.ride(1, 2, 3, 4);
        x.ride(2, 3, 4, 1);
        x.cancel(0);
        check.same("undo cancel", x.undo(), 2);
        int[] due = {1, 2, 3, 4, 90, 1, 30, 140, 66, 0};
        for (int what = 0; what < due.length; what++) {
            check.same("rider(0, " + what + ")", x.rider(0, what), due[what]);
        }
        check.same("rider(1, 0)", x.rider(1, 0), 2);
        x.rebook(0, 2);
        check.same("its van", x.rider(0, 5), 2);
        x.undo();
        check.same("rebook", x.rider(0, 0), 1);
        check.same("its van again", x.rider(0, 5), 1);
        check.same("people in van 1", x.vanOf(1, 2), 4);
        check.same("waiting", x.count(9), 5 * 30);
        x.save(0);
        x.undo();
        x.restore(0);
        check.same("riders", x.count(5), 2);
        x.undo();
        check.same("undo restore", x.count(5), 1);
    }

    private static void sixStates() {
        ShuttleDoors x = new ShuttleDoors();
        for (int v = 1; v <= 20; v++) {
            x.set(0, v);
            check.same("changes", x.count(15), Math.min(v, 6));
        }
        for (int left = 5; left >= 0; left--) {
            check.same("undo", x.undo(), left);
            check.same("bags", x.count(0), 14 + left);
        }
        check.same("no more", x.undo(), -105);
        check.same("bags stay", x.count(0), 14);
        x.set(0, 50);
        x.set(0, 51);
        check.same("anew", x.undo(), 1);
        x.set(0, 52);
        check.same("over what was undone", x.undo(), 1);
        check.same("bags", x.count(0), 50);
        check.same("undo", x.undo(), 0);
        check.same("bags", x.count(0), 14);
    }

    private static void noDifference() {
        ShuttleDoors x = new ShuttleDoors();
        x.set(0, 30);
        x.land(0, 0);
        x.delay(0, 0);
        x.van(0, 60, 6);
        check.same("each is recorded", x.count(15), 4);
        x.save(0);
        check.same("save is no change", x.count(15), 4);
        x.restore(0);
        check.same("restore is one", x.count(15), 5);
        x.set(0, 91);
        check.same("an error is none", x.count(15), 5);
        x.ride(0, 0, 0, 1);
        check.same("ride", x.count(15), 6);
        check.same("rebook that strands", x.rebook(0, 5), 5);
        x.van(0, 60, 0);
        check.same("NONE is no error", x.rebook(0, 0), -106);
        x.undo();
        check.same("undone", x.rider(0, 0), 5);
    }

    private static void save() {
        ShuttleDoors x = new ShuttleDoors();
        check.same("slot -1", x.save(-1), -102);
        check.same("slot 2", x.save(2), -102);
        check.same("none", x.save(0), 0);
        x.ride(0, 0, 0, 1);
        check.same("one", x.save(1), 1);
        x.ride(0, 0, 0, 1);
        check.same("overwritten", x.save(0), 2);
        x.cancel(0);
        x.cancel(0);
        check.same("slot 1", x.restore(1), 1);
        check.same("slot 0", x.restore(0), 2);
    }

    private static void restore() {
        ShuttleDoors x = new ShuttleDoors();
        check.same("slot -1", x.restore(-1), -102);
        check.same("slot 2", x.restore(2), -102);
        check.same("slot 0", x.restore(0), -105);
        check.same("slot 1", x.restore(1), -105);
        x.set(ShuttleDoors.DOOR, 9);
        x.land(1, 70);
        x.delay(1, 11);
        x.van(1, 121, 5);
        x.ride(1, 2, 3, 4);
        x.save(1);
        check.same("the other one", x.restore(0), -105);
        x.set(ShuttleDoors.DOOR, 10);
        x.land(1, 71);
        x.delay(1, 12);
        x.van(1, 122, 6);
        x.cancel(0);
        Texts.put(x, "0a0");
        check.same("restore", x.restore(1), 1);
        check.same("door", x.count(4), 9);
        check.same("lands", x.flight(1, 0), 70);
        check.same("delay", x.flight(1, 1), 11);
        check.same("leaves", x.vanOf(1, 0), 121);
        check.same("seats", x.vanOf(1, 1), 5);
        check.same("ready", x.rider(0, 4), 111);
        check.same("van", x.rider(0, 5), 1);
        check.same("fare", x.rider(0, 8), 69);
        check.same("the pad stays", x.count(14), 3);
        x.cancel(0);
        check.same("nobody in the van", x.vanOf(1, 2), 0);
        check.same("the slot keeps it", x.restore(1), 1);
        check.same("people in the van again", x.vanOf(1, 2), 4);
        check.same("changes", x.count(15), 6);
        check.same("undo", x.undo(), 5);
        check.same("riders", x.count(5), 0);
    }

    private static void slotsAndHistoryAreApart() {
        ShuttleDoors x = new ShuttleDoors();
        x.ride(0, 0, 0, 1);
        x.save(0);
        x.undo();
        check.same("undo keeps the slot", x.restore(0), 1);
        x.set(0, 5);
        check.same("the slot is no part of now", x.restore(0), 1);
        check.same("bags", x.count(0), 30);
        x.undo();
        check.same("bags before", x.count(0), 5);
        x.undo();
        check.same("bags before that", x.count(0), 30);
    }
}
