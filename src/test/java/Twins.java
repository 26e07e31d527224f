import java.util.ArrayList;
import java.util.List;

/** Two objects with the same calls behind them, of which one gets a call more: do they differ in anything? */
final class Twins {
    interface Calls {
        void on(ShuttleDoors x);
    }

    interface Call {
        int on(ShuttleDoors x);
    }

    /** What lies hidden comes to light by these: the states of the history, the slots, the characters of the pad. */
    private static final List<Calls> AFTERWARDS = List.of(
        x -> { },
        x -> undo(x, 1),
        x -> undo(x, 2),
        x -> undo(x, 3),
        x -> undo(x, 4),
        x -> undo(x, 5),
        x -> undo(x, 6),
        x -> x.restore(0),
        x -> x.restore(1),
        x -> x.read(),
        x -> readWith(x, "1b1"),
        x -> readWith(x, ",1b1"));

    private Twins() {
    }

    private static void undo(ShuttleDoors x, int times) {
        for (int i = 0; i < times; i++) {
            x.undo();
        }
    }

    private static void readWith(ShuttleDoors x, String more) {
        Texts.put(x, more);
        x.read();
    }

    /** All that can be asked; fewer than 400 calls, so that an object keeps within its 512. */
    static List<Integer> look(ShuttleDoors x) {
        List<Integer> seen = new ArrayList<>();
        for (int what = 0; what < 16; what++) {
            seen.add(x.count(what));
        }
        int riders = x.count(5);
        for (int rider = 0; rider < riders; rider++) {
            for (int what = 0; what < 10; what++) {
                seen.add(x.rider(rider, what));
            }
        }
        for (int van = 0; van < 8; van++) {
            for (int what = 0; what < 8; what++) {
                seen.add(x.vanOf(van, what));
            }
        }
        for (int flight = 0; flight < 6; flight++) {
            for (int what = 0; what < 5; what++) {
                seen.add(x.flight(flight, what));
            }
        }
        for (int minute = 0; minute < 200; minute += 30) {
            seen.add(x.kerb(minute));
        }
        seen.add(x.fullest());
        seen.add(x.fault());
        return seen;
    }

    private static ShuttleDoors after(Calls calls) {
        ShuttleDoors x = new ShuttleDoors();
        calls.on(x);
        return x;
    }

    /** What the call answers after the others. */
    static int answer(Calls before, Call call) {
        return call.on(after(before));
    }

    /** The call answers what is due, and nothing is different then, now or later on. */
    static void nothingChanges(Check check, String what, Calls before, Call call, int due) {
        for (int i = 0; i < AFTERWARDS.size(); i++) {
            ShuttleDoors one = after(before);
            ShuttleDoors other = after(before);
            check.same(what, call.on(other), due);
            AFTERWARDS.get(i).on(one);
            AFTERWARDS.get(i).on(other);
            check.holds(what + " changes nothing, afterwards " + i, look(one).equals(look(other)));
        }
    }

    /** The call is recorded as one change, and undo brings all back but the pad. */
    static void isChange(Check check, String what, Calls before, Call call, int due) {
        ShuttleDoors one = after(before);
        ShuttleDoors other = after(before);
        int changes = other.count(15);
        check.same(what, call.on(other), due);
        check.same(what + ", changes", other.count(15), Math.min(changes + 1, 6));
        check.same(what + ", undone", other.undo(), Math.min(changes, 5));
        one.wipe();
        other.wipe();
        List<Integer> lookOfOne = look(one);
        List<Integer> lookOfOther = look(other);
        // Of a full history the oldest state is gone.
        lookOfOne.set(15, Math.min(changes, 5));
        check.holds(what + " is undone as a whole", lookOfOne.equals(lookOfOther));
    }

    /** Nothing yet. */
    static void fresh(ShuttleDoors x) {
    }

    /** Both slots and the history are full, one of the riders is stranded, and the pad is not whole. */
    static void lived(ShuttleDoors x) {
        x.ride(1, 2, 3, 2);
        x.save(0);
        x.set(ShuttleDoors.BAGS, 20);
        x.land(2, 130);
        x.delay(3, 7);
        x.van(4, 310, 5);
        x.ride(0, 1, 5, 4);
        x.ride(0, 4, 9, 3);
        x.save(1);
        x.rebook(0, 3);
        x.van(1, 200, 12);
        x.set(ShuttleDoors.COST, 61);
        Texts.put(x, "0a0,");
    }

    /** 24 riders in all vans, and as many characters as the pad holds: too many riders for it. */
    static void full(ShuttleDoors x) {
        Texts.put(x, "0a0,1b1,2c2,3d3,4e4,5f5,0a0,1b1,2c2,3d3,4e4,5f5");
        x.read();
        Texts.put(x, "0a0,1b1,2c2,3d3,4e4,5f5,0a0,1b1,2c2,3d3,4e4,5f5");
        x.read();
        x.save(0);
        Texts.put(x, "0a0,1b1x3,2c22,3d3,4e44x4,5f55,0a66x1,1b77x2,2c8,3d9x1,4e10");
        x.put('x');
    }
}
