import java.util.ArrayList;
import java.util.List;

/** Promises 23 to 25: undo, save, restore; and how long an object is used. */
final class HistorySentences {
    private static final int[] FAR = {Integer.MIN_VALUE, Integer.MIN_VALUE + 1, -1000000, 1000000, Integer.MAX_VALUE};

    private HistorySentences() {
    }

    static List<Sentence> all() {
        String undo = "Promise 23: undo";
        String save = "Promise 24: save";
        String restore = "Promise 25: restore";
        return List.of(
            new Sentence("What it is", "An object is used for at most 512 calls after it has been made;", HistorySentences::lastCall),
            new Sentence(undo, "`int undo()`: Undoes the latest change:", HistorySentences::latest),
            new Sentence(undo, "everything except the pad, the slots and the history is as it was before it.", HistorySentences::asBefore),
            new Sentence(undo, "A history of at most 6 states is kept:", HistorySentences::sixStates),
            new Sentence(undo, "each method that is a change, and returns no error, records the state before it",
                HistorySentences::eachChange),
            new Sentence(undo, "(also if nothing is different then);", HistorySentences::nothingDifferent),
            new Sentence(undo, "when one more is recorded, the oldest one is dropped.", HistorySentences::oldestIsDropped),
            new Sentence(undo, "Returns how many changes can be undone then;", HistorySentences::changesLeft),
            new Sentence(undo, "NOT_POSSIBLE if there is none.", HistorySentences::nothingToUndo),
            new Sentence(save, "`int save(int slot)`: Saves everything except the pad, the history and the slots in a slot,",
                HistorySentences::save),
            new Sentence(save, "and overwrites what was saved there.", HistorySentences::overwrites),
            new Sentence(save, "- `slot`: 0 or 1", HistorySentences::twoSlots),
            new Sentence(save, "Returns how many riders there are;", HistorySentences::savedRiders),
            new Sentence(save, "BAD_VALUE if there is no such slot.", HistorySentences::saveNoSlot),
            new Sentence(restore, "`int restore(int slot)`: Restores what was saved last in a slot,", HistorySentences::restore),
            new Sentence(restore, "which keeps it.", HistorySentences::keepsIt),
            new Sentence(restore, "This is a change.", HistorySentences::restoreIsAChange),
            new Sentence(restore, "- `slot`: 0 or 1", HistorySentences::slotsApart),
            new Sentence(restore, "Returns how many riders there are then;", HistorySentences::restoredRiders),
            new Sentence(restore, "BAD_VALUE if there is no such slot;", HistorySentences::restoreNoSlot),
            new Sentence(restore, "NOT_POSSIBLE if nothing was saved in it.", HistorySentences::nothingSaved));
    }

    /** All that the pad, the history and the slots have no part in. */
    private static List<Integer> state(ShuttleDoors x) {
        List<Integer> seen = new ArrayList<>(Twins.look(x));
        // The length of the pad, the changes, and at the end the fault.
        seen.set(14, 0);
        seen.set(15, 0);
        seen.set(seen.size() - 1, 0);
        return seen;
    }

    /** Changes everything that can be. */
    private static void changeAll(ShuttleDoors x) {
        for (int setting = 0; setting < 5; setting++) {
            x.set(setting, setting + 5 - setting / 2);
        }
        for (int flight = 0; flight < 6; flight++) {
            x.land(flight, 11 * flight + 5);
            x.delay(flight, flight - 3);
        }
        for (int van = 0; van < 8; van++) {
            x.van(van, 17 * van + 30, van + 2);
        }
        x.ride(5, 4, 33, 2);
        x.wipe();
        Texts.put(x, "1b1x4,0c77");
        x.read();
    }

    private static void lastCall(Check check) {
        ShuttleDoors x = new ShuttleDoors();
        for (int call = 0; call < 24; call++) {
            x.ride(call % 6, 0, 0, 1);
        }
        for (int call = 24; call < 504; call++) {
            check.same("call " + call, x.set(ShuttleDoors.COST, call % 300), call == 24 ? 60 : (call - 1) % 300);
        }
        check.same("call 505", x.bestMinute(0), 30);
        // Ready at 300 two of the four go in van 4, two in van 5; a minute later they would need van 5 alone.
        check.same("call 506", x.mostDelay(0), 270);
        check.same("call 507", x.ifDelayed(0, 300, 0), 2);
        check.same("call 508", x.save(1), 24);
        check.same("call 509", x.cancel(0), (503 % 300 + 3) / 4 + 2);
        check.same("call 510", x.restore(1), 24);
        check.same("call 511", x.undo(), 5);
        check.same("call 512", x.count(5), 23);
    }

    // ---- undo

    private static void latest(Check check) {
        ShuttleDoors x = new ShuttleDoors();
        x.set(ShuttleDoors.BAGS, 1);
        x.land(0, 2);
        x.set(ShuttleDoors.BAGS, 3);
        x.undo();
        check.same("the latest one", x.count(0), 1);
        check.same("and no other one", x.flight(0, 0), 2);
        x.undo();
        check.same("the one before", x.flight(0, 0), 0);
        check.same("stays", x.count(0), 1);
        x.set(ShuttleDoors.BAGS, 9);
        x.undo();
        check.same("what was changed since", x.count(0), 1);
        x.undo();
        check.same("the first one", x.count(0), 30);
    }

    private static void asBefore(Check check) {
        List<Twins.Call> changes = List.of(
            x -> x.set(ShuttleDoors.PATIENCE, 240), x -> x.land(0, 1200), x -> x.delay(0, 300), x -> x.van(0, 30, 12),
            x -> x.ride(0, 5, 99, 4), x -> x.cancel(0), x -> x.rebook(0, 5), x -> x.restore(0));
        for (int i = 0; i < changes.size(); i++) {
            ShuttleDoors x = new ShuttleDoors();
            Twins.lived(x);
            List<Integer> before = state(x);
            check.holds("change " + i, changes.get(i).on(x) >= 0);
            x.undo();
            check.holds("undone " + i, before.equals(state(x)));
        }
        ShuttleDoors x = Texts.airport("0a0");
        x.save(0);
        Texts.put(x, "1b1,2c2");
        x.read();
        Texts.put(x, "5f");
        x.save(1);
        x.undo();
        check.same("riders", x.count(5), 1);
        check.same("the pad is as it is", x.count(14), 2);
        check.same("a slot that was saved before", x.restore(0), 1);
        check.same("a slot that was saved after", x.restore(1), 3);
        ShuttleDoors y = new ShuttleDoors();
        List<Integer> first = state(y);
        y.ride(0, 0, 0, 1);
        y.undo();
        check.holds("as a new one", first.equals(state(y)));
    }

    private static void sixStates(Check check) {
        for (int changes = 0; changes <= 14; changes++) {
            ShuttleDoors x = new ShuttleDoors();
            for (int bags = 0; bags < changes; bags++) {
                x.set(ShuttleDoors.BAGS, bags);
            }
            int kept = Math.min(changes, 6);
            for (int undone = 1; undone <= kept; undone++) {
                check.same(changes + " changes, undo " + undone, x.undo(), kept - undone);
                int left = changes - undone;
                check.same("bags then", x.count(0), left == 0 ? 30 : left - 1);
            }
            check.same(changes + " changes, once more", x.undo(), -105);
        }
    }

    private static void eachChange(Check check) {
        ShuttleDoors x = new ShuttleDoors();
        x.save(0);
        int[] answers = {x.set(0, 1), x.land(0, 1), x.delay(0, 1), x.van(0, 60, 6), x.ride(0, 0, 0, 1), x.rebook(0, 1)};
        check.same("no error", answers[5], 1);
        check.same("six changes", x.count(15), 6);
        ShuttleDoors y = Texts.airport("0a0");
        check.same("read", y.count(15), 1);
        y.cancel(0);
        check.same("cancel", y.count(15), 2);
        y.save(0);
        check.same("save is none", y.count(15), 2);
        y.restore(0);
        check.same("restore", y.count(15), 3);
        Texts.put(y, "0a0");
        y.wipe();
        y.fault();
        check.same("texts are none", y.count(15), 3);
        y.bestMinute(0);
        y.mostDelay(0);
        y.ifDelayed(0, 0, 0);
        y.fullest();
        y.kerb(0);
        check.same("questions are none", y.count(15), 3);
        for (Refusal r : Refusal.SINGLE) {
            ShuttleDoors z = new ShuttleDoors();
            r.before().on(z);
            int changes = z.count(15);
            r.call().on(z);
            check.same("an error is none: " + r.name(), z.count(15), changes);
        }
    }

    private static void nothingDifferent(Check check) {
        ShuttleDoors x = new ShuttleDoors();
        x.set(ShuttleDoors.BAGS, 30);
        check.same("set", x.count(15), 1);
        x.land(0, 0);
        check.same("land", x.count(15), 2);
        x.delay(0, 0);
        check.same("delay", x.count(15), 3);
        x.van(0, 60, 6);
        check.same("van", x.count(15), 4);
        x.save(0);
        x.restore(0);
        check.same("restore", x.count(15), 5);
        for (int left = 4; left >= 0; left--) {
            check.same("undo", x.undo(), left);
        }
        ShuttleDoors y = new ShuttleDoors();
        y.set(ShuttleDoors.BAGS, 7);
        for (int i = 0; i < 6; i++) {
            y.land(0, 0);
        }
        for (int i = 0; i < 6; i++) {
            y.undo();
        }
        check.same("they drop older ones", y.undo(), -105);
        check.same("which can't be undone then", y.count(0), 7);
    }

    private static void oldestIsDropped(Check check) {
        ShuttleDoors x = new ShuttleDoors();
        for (int bags = 0; bags < 6; bags++) {
            x.set(ShuttleDoors.BAGS, bags);
        }
        check.same("six", x.count(15), 6);
        x.set(ShuttleDoors.BAGS, 6);
        check.same("six still", x.count(15), 6);
        for (int bags = 5; bags >= 0; bags--) {
            x.undo();
            check.same("bags", x.count(0), bags);
        }
        check.same("not to the first", x.undo(), -105);
        // Undo and changes in turns, past the end of whatever holds six.
        ShuttleDoors y = new ShuttleDoors();
        for (int bags = 0; bags < 40; bags++) {
            y.set(ShuttleDoors.BAGS, bags);
            y.set(ShuttleDoors.BAGS, 90);
            check.same("at " + bags, y.undo(), Math.min(bags + 1, 5));
            check.same("bags", y.count(0), bags);
        }
        for (int left = 4; left >= 0; left--) {
            check.same("undo", y.undo(), left);
            check.same("bags", y.count(0), 35 + left - 1);
        }
    }

    private static void changesLeft(Check check) {
        ShuttleDoors x = new ShuttleDoors();
        x.set(ShuttleDoors.BAGS, 1);
        check.same("none of one", x.undo(), 0);
        for (int i = 0; i < 9; i++) {
            x.set(ShuttleDoors.BAGS, i);
        }
        for (int left = 5; left >= 0; left--) {
            check.same("one less", x.undo(), left);
            check.same("as it is counted", x.count(15), left);
        }
        x.set(ShuttleDoors.BAGS, 1);
        x.set(ShuttleDoors.BAGS, 1);
        check.same("anew", x.undo(), 1);
    }

    private static void nothingToUndo(Check check) {
        ShuttleDoors x = new ShuttleDoors();
        check.same("of a new object", x.undo(), -105);
        x.set(ShuttleDoors.BAGS, 91);
        check.same("after an error", x.undo(), -105);
        x.save(0);
        check.same("after save", x.undo(), -105);
        Texts.put(x, "0a0");
        check.same("after put", x.undo(), -105);
        x.read();
        check.same("after a change", x.undo(), 0);
        check.same("after undo", x.undo(), -105);
        check.same("and again", x.undo(), -105);
        check.same("nobody is there", x.count(5), 0);
    }

    // ---- save

    private static void save(Check check) {
        ShuttleDoors x = new ShuttleDoors();
        Twins.lived(x);
        List<Integer> saved = state(x);
        x.save(0);
        x.undo();
        changeAll(x);
        check.holds("all is different", !saved.equals(state(x)));
        check.same("changes", x.count(15), 6);
        Texts.put(x, "5f99x4,");
        x.restore(0);
        check.holds("everything is as it was saved", saved.equals(state(x)));
        check.same("but the pad is as it is", x.count(14), 7);
        check.same("and the history", x.undo(), 5);
        ShuttleDoors y = new ShuttleDoors();
        List<Integer> first = state(y);
        y.save(1);
        changeAll(y);
        y.restore(1);
        check.holds("nothing yet is saved, too", first.equals(state(y)));
        ShuttleDoors z = Texts.airport("0a0");
        z.save(0);
        z.ride(0, 0, 0, 1);
        z.save(1);
        z.restore(0);
        check.same("the slots are not saved in a slot", z.restore(1), 2);
    }

    private static void overwrites(Check check) {
        for (int slot = 0; slot < 2; slot++) {
            ShuttleDoors x = Texts.airport("0a0,0a0,0a0");
            x.save(slot);
            x.cancel(0);
            x.set(ShuttleDoors.DOOR, 9);
            x.save(slot);
            x.cancel(0);
            x.set(ShuttleDoors.DOOR, 10);
            check.same("what was saved last", x.restore(slot), 2);
            check.same("likewise", x.count(4), 9);
        }
    }

    private static void twoSlots(Check check) {
        ShuttleDoors x = Texts.airport("0a0");
        check.same("slot 0", x.save(0), 1);
        check.same("slot 1 is not it", x.restore(1), -105);
        x.ride(0, 0, 0, 1);
        check.same("slot 1", x.save(1), 2);
        check.same("slot 0 is not it", x.restore(0), 1);
        check.same("slot 1 has its own", x.restore(1), 2);
        check.same("slot -1", x.save(-1), -102);
        check.same("slot 2", x.save(2), -102);
    }

    private static void savedRiders(Check check) {
        ShuttleDoors x = new ShuttleDoors();
        for (int riders = 0; riders <= 24; riders++) {
            check.same("riders, not people", x.save(riders % 2), riders);
            x.ride(0, 0, 0, 4);
        }
        check.same("the most", x.save(0), 24);
    }

    private static void saveNoSlot(Check check) {
        ShuttleDoors x = Texts.airport("0a0");
        check.same("slot -1", x.save(-1), -102);
        check.same("slot 2", x.save(2), -102);
        for (int slot : FAR) {
            check.same("slot " + slot, x.save(slot), -102);
        }
        check.same("nothing is in 0", x.restore(0), -105);
        check.same("nothing is in 1", x.restore(1), -105);
    }

    // ---- restore

    private static void restore(Check check) {
        for (int slot = 0; slot < 2; slot++) {
            ShuttleDoors x = new ShuttleDoors();
            changeAll(x);
            List<Integer> saved = state(x);
            x.save(slot);
            x.save(1 - slot);
            x.cancel(0);
            x.save(1 - slot);
            x.rebook(0, 4);
            x.restore(slot);
            check.holds("all of slot " + slot, saved.equals(state(x)));
            check.same("the other one", x.restore(1 - slot), 2);
        }
        ShuttleDoors y = new ShuttleDoors();
        y.save(0);
        Twins.full(y);
        y.save(1);
        y.save(0);
        y.undo();
        y.undo();
        check.same("a full one", y.restore(0), 24);
    }

    private static void keepsIt(Check check) {
        ShuttleDoors x = Texts.airport("0a0,1a0");
        x.save(1);
        for (int time = 0; time < 8; time++) {
            check.same("time " + time, x.restore(1), 2);
            x.set(ShuttleDoors.BAGS, time);
            x.land(0, time);
            x.delay(0, time);
            x.van(0, time, time);
            x.rebook(1, 5);
            x.cancel(0);
            check.same("changed", x.rider(0, 0), 5);
        }
        check.same("the last time", x.restore(1), 2);
        check.same("bags", x.count(0), 30);
        check.same("lands", x.flight(0, 0), 0);
        check.same("delay", x.flight(0, 1), 0);
        check.same("leaves", x.vanOf(0, 0), 60);
        check.same("seats", x.vanOf(0, 1), 6);
        check.same("flight", x.rider(1, 0), 1);
        ShuttleDoors y = Texts.airport("0a0");
        y.save(0);
        y.undo();
        y.undo();
        check.same("undo takes nothing from it", y.restore(0), 1);
        y.undo();
        check.same("nor does the undo of restore", y.restore(0), 1);
    }

    private static void restoreIsAChange(Check check) {
        Twins.isChange(check, "restore of slot 0", Twins::lived, x -> x.restore(0), 1);
        Twins.isChange(check, "restore of slot 1", Twins::lived, x -> x.restore(1), 3);
        Twins.isChange(check, "restore of a full state", Twins::full, x -> x.restore(0), 24);
        Twins.isChange(check, "restore that makes no difference", x -> x.save(0), x -> x.restore(0), 0);
    }

    private static void slotsApart(Check check) {
        ShuttleDoors x = new ShuttleDoors();
        x.save(0);
        x.ride(0, 0, 0, 1);
        x.save(1);
        check.same("slot 0", x.restore(0), 0);
        check.same("slot 1", x.restore(1), 1);
        check.same("slot 0 again", x.restore(0), 0);
        check.same("slot -1", x.restore(-1), -102);
        check.same("slot 2", x.restore(2), -102);
    }

    private static void restoredRiders(Check check) {
        for (int riders = 0; riders <= 24; riders++) {
            ShuttleDoors x = new ShuttleDoors();
            for (int rider = 0; rider < riders; rider++) {
                x.ride(0, 0, 0, 4);
            }
            x.save(0);
            x.undo();
            check.same("then, not before", x.restore(0), riders);
            check.same("as they are counted", x.count(5), riders);
        }
    }

    private static void restoreNoSlot(Check check) {
        ShuttleDoors x = Texts.airport("0a0");
        check.same("slot -1, nothing being saved", x.restore(-1), -102);
        check.same("slot 2, nothing being saved", x.restore(2), -102);
        x.save(0);
        x.save(1);
        check.same("slot -1", x.restore(-1), -102);
        check.same("slot 2", x.restore(2), -102);
        for (int slot : FAR) {
            check.same("slot " + slot, x.restore(slot), -102);
        }
    }

    private static void nothingSaved(Check check) {
        ShuttleDoors x = Texts.airport("0a0");
        check.same("slot 0", x.restore(0), -105);
        check.same("slot 1", x.restore(1), -105);
        x.save(1);
        check.same("slot 0 still", x.restore(0), -105);
        check.same("slot 1", x.restore(1), 1);
        ShuttleDoors y = new ShuttleDoors();
        y.save(0);
        check.same("a state without riders is something", y.restore(0), 0);
        check.same("of another object", new ShuttleDoors().restore(0), -105);
    }
}
