/** Promise 7: read. */
public final class ReadTest {
    private static final Check check = new Check("ReadTest");

    public static void main(String[] args) {
        riders();
        faults();
        tooMany();
        check.end();
    }

    private static void rider(ShuttleDoors x, int rider, int flight, int area, int door, int people) {
        check.same("flight of " + rider, x.rider(rider, 0), flight);
        check.same("area of " + rider, x.rider(rider, 1), area);
        check.same("door of " + rider, x.rider(rider, 2), door);
        check.same("people of " + rider, x.rider(rider, 3), people);
    }

    private static void riders() {
        ShuttleDoors x = new ShuttleDoors();
        x.ride(3, 2, 1, 2);
        Texts.put(x, "0a0,5f99x4,2c10,3d9x1,1b73x2,4e5x3");
        check.same("read", x.read(), 7);
        rider(x, 0, 3, 2, 1, 2);
        rider(x, 1, 0, 0, 0, 1);
        rider(x, 2, 5, 5, 99, 4);
        rider(x, 3, 2, 2, 10, 1);
        rider(x, 4, 3, 3, 9, 1);
        rider(x, 5, 1, 1, 73, 2);
        rider(x, 6, 4, 4, 5, 3);
        check.same("the pad is empty", x.count(14), 0);
        check.same("read is one change", x.count(15), 2);
        check.same("vans are given", x.rider(1, 5), 0);
        check.same("undo", x.undo(), 1);
        check.same("riders", x.count(5), 1);
        check.same("the pad stays empty", x.count(14), 0);
    }

    private static void faults() {
        ShuttleDoors x = new ShuttleDoors();
        check.same("empty", x.read(), -103);
        Texts.put(x, "0a00");
        check.same("leading zero", x.read(), -103);
        check.same("the pad stays", x.count(14), 4);
        x.wipe();
        Texts.put(x, "0a0,");
        check.same("too short", x.read(), -103);
        Texts.put(x, "1b1x");
        check.same("still too short", x.read(), -103);
        Texts.put(x, "4");
        check.same("nobody came", x.count(5), 0);
        check.same("no change", x.count(15), 0);
        check.same("now it is whole", x.read(), 2);
    }

    private static void tooMany() {
        ShuttleDoors x = new ShuttleDoors();
        Texts.put(x, "0a0,0a0,0a0,0a0,0a0,0a0,0a0,0a0,0a0,0a0,0a0,0a0,0a0,0a0,0a0");
        check.same("length", x.count(14), 59);
        check.same("15 riders", x.read(), 15);
        Texts.put(x, "1b1,1b1,1b1,1b1,1b1,1b1,1b1,1b1,1b1,1b1");
        check.same("25 riders", x.read(), -104);
        check.same("the pad stays", x.count(14), 39);
        check.same("nobody came", x.count(5), 15);
        check.same("no change", x.count(15), 1);
        Texts.put(x, ",");
        check.same("BAD_TEXT ahead of TOO_MANY", x.read(), -103);
        x.wipe();
        Texts.put(x, "1b1,1b1,1b1,1b1,1b1,1b1,1b1,1b1,1b1");
        check.same("24 riders", x.read(), 24);
        Texts.put(x, "1b1");
        check.same("one more", x.read(), -104);
    }
}
