/** Promises 2 to 6, 8 and 9: set, land, delay, van, ride, cancel, rebook. */
public final class ChangesTest {
    private static final Check check = new Check("ChangesTest");

    public static void main(String[] args) {
        set();
        land();
        delay();
        van();
        ride();
        cancel();
        rebook();
        errorsChangeNothing();
        check.end();
    }

    private static void set() {
        int[] least = {0, 0, 1, 0, 0};
        int[] most = {90, 240, 6, 300, 40};
        int[] first = {30, 60, 3, 60, 6};
        ShuttleDoors x = new ShuttleDoors();
        for (int s = 0; s < 5; s++) {
            check.same("set below, " + s, x.set(s, least[s] - 1), -102);
            check.same("set above, " + s, x.set(s, most[s] + 1), -102);
            check.same("set far above, " + s, x.set(s, Integer.MAX_VALUE), -102);
            check.same("set far below, " + s, x.set(s, Integer.MIN_VALUE), -102);
            check.same("still the first, " + s, x.count(s), first[s]);
            check.same("set the least, " + s, x.set(s, least[s]), first[s]);
            check.same("count, " + s, x.count(s), least[s]);
            check.same("set the most, " + s, x.set(s, most[s]), least[s]);
            check.same("count, " + s, x.count(s), most[s]);
        }
        check.same("set(-1)", x.set(-1, 1), -102);
        check.same("set(5)", x.set(5, 1), -102);
        check.same("set(MAX)", x.set(Integer.MAX_VALUE, 1), -102);
        check.same("set(MIN)", x.set(Integer.MIN_VALUE, 1), -102);
        check.same("changes", x.count(15), 6);
    }

    private static void land() {
        ShuttleDoors x = new ShuttleDoors();
        check.same("land(-1)", x.land(-1, 0), -101);
        check.same("land(6) ahead of the minute", x.land(6, 1201), -101);
        check.same("land below", x.land(0, -1), -102);
        check.same("land above", x.land(0, 1201), -102);
        check.same("land(5, 1200)", x.land(5, 1200), 300);
        check.same("land(5, 0)", x.land(5, 0), 1200);
        check.same("land(5, 7)", x.land(5, 7), 0);
        check.same("lands", x.flight(5, 0), 7);
        check.same("others stay", x.flight(4, 0), 240);
        x.ride(5, 0, 0, 1);
        check.same("ready", x.rider(0, 4), 37);
        x.land(5, 100);
        check.same("ready later", x.rider(0, 4), 130);
        check.same("its van", x.rider(0, 5), 2);
    }

    private static void delay() {
        ShuttleDoors x = new ShuttleDoors();
        check.same("delay(-1)", x.delay(-1, 0), -101);
        check.same("delay(6) ahead of the minutes", x.delay(6, 301), -101);
        check.same("delay below", x.delay(0, -31), -102);
        check.same("delay above", x.delay(0, 301), -102);
        check.same("delay(1, 300)", x.delay(1, 300), 390);
        check.same("delay(1, -30)", x.delay(1, -30), 60);
        check.same("delays do not add up", x.delay(1, 10), 100);
        check.same("it is told", x.flight(1, 1), 10);
        x.set(ShuttleDoors.BAGS, 0);
        check.same("delay(0, -30) without bags", x.delay(0, -30), -30);
        check.same("delay(0, 5)", x.delay(0, 5), 5);
    }

    private static void van() {
        ShuttleDoors x = new ShuttleDoors();
        check.same("van(-1)", x.van(-1, 0, 0), -101);
        check.same("van(8) ahead of the others", x.van(8, -1, 13), -101);
        check.same("minute below", x.van(0, -1, 0), -102);
        check.same("minute above", x.van(0, 1501, 0), -102);
        check.same("seats below", x.van(0, 0, -1), -102);
        check.same("seats above", x.van(0, 0, 13), -102);
        x.ride(0, 0, 0, 4);
        x.ride(0, 0, 0, 3);
        check.same("the second waits for van 1, which is too late", x.count(8), 3);
        check.same("more seats", x.van(0, 60, 7), 0);
        check.same("no seats", x.van(0, 60, 0), 7);
        check.same("one seat too few for the first alone", x.van(0, 60, 3), 4);
        check.same("the second got it", x.rider(1, 5), 0);
        check.same("edges", x.van(7, 1500, 12), 4);
        check.same("leaves", x.vanOf(7, 0), 1500);
        check.same("seats", x.vanOf(7, 1), 12);
        check.same("a second van within patience", x.van(1, 90, 4), 0);
    }

    private static void ride() {
        ShuttleDoors x = new ShuttleDoors();
        check.same("flight -1", x.ride(-1, 0, 0, 1), -101);
        check.same("flight 6", x.ride(6, 0, 0, 1), -101);
        check.same("area -1", x.ride(0, -1, 0, 1), -101);
        check.same("area 6, ahead of door", x.ride(0, 6, 100, 9), -101);
        check.same("door -1", x.ride(0, 0, -1, 1), -102);
        check.same("door 100", x.ride(0, 0, 100, 1), -102);
        check.same("people 0", x.ride(0, 0, 0, 0), -102);
        check.same("people 5", x.ride(0, 0, 0, 5), -102);
        for (int r = 0; r < 24; r++) {
            check.same("ride " + r, x.ride(r % 6, r % 6, 99 - r, r % 4 + 1), r);
        }
        check.same("one more", x.ride(0, 0, 0, 1), -104);
        check.same("BAD_VALUE ahead of TOO_MANY", x.ride(0, 0, 0, 5), -102);
        check.same("NO_SUCH ahead of TOO_MANY", x.ride(6, 0, 0, 1), -101);
        check.same("riders", x.count(5), 24);
        check.same("flight", x.rider(23, 0), 5);
        check.same("area", x.rider(23, 1), 5);
        check.same("door", x.rider(23, 2), 76);
        check.same("people", x.rider(23, 3), 4);
        check.same("after undo there is room", x.undo(), 5);
        check.same("again", x.ride(2, 3, 4, 1), 23);
    }

    private static void cancel() {
        ShuttleDoors x = new ShuttleDoors();
        check.same("nobody", x.cancel(0), -101);
        x.ride(0, 0, 5, 1);
        x.ride(0, 1, 6, 2);
        x.ride(0, 2, 7, 3);
        check.same("cancel(-1)", x.cancel(-1), -101);
        check.same("cancel(3)", x.cancel(3), -101);
        check.same("60 * 2 / 6 and 6", x.cancel(1), 26);
        check.same("riders", x.count(5), 2);
        check.same("the one ahead stays", x.rider(0, 2), 5);
        check.same("flight moved", x.rider(1, 0), 0);
        check.same("area moved", x.rider(1, 1), 2);
        check.same("door moved", x.rider(1, 2), 7);
        check.same("people moved", x.rider(1, 3), 3);
        check.same("no more rider 2", x.rider(2, 0), -101);
        check.same("fare of one of 4", x.rider(0, 8), 15 + 6);
        check.same("the last one", x.cancel(1), 45 + 6);
        x.van(0, 60, 0);
        check.same("a stranded one pays nothing", x.cancel(0), 0);
        check.same("nobody is left", x.count(5), 0);
        ShuttleDoors y = new ShuttleDoors();
        y.ride(0, 0, 0, 4);
        y.ride(2, 0, 0, 4);
        y.ride(0, 0, 0, 3);
        y.ride(4, 0, 0, 4);
        check.same("stranded by the first", y.rider(2, 5), -106);
        check.same("the first goes", y.cancel(0), 66);
        check.same("flight of the second", y.rider(0, 0), 2);
        check.same("its van", y.rider(0, 5), 2);
        check.same("the third gets the seats", y.rider(1, 5), 0);
        check.same("the last moved, too", y.rider(2, 5), 4);
        check.same("nobody is stranded", y.count(8), 0);
    }

    private static void rebook() {
        ShuttleDoors x = new ShuttleDoors();
        check.same("nobody", x.rebook(0, 0), -101);
        x.ride(0, 0, 0, 4);
        check.same("rebook(-1)", x.rebook(-1, 1), -101);
        check.same("rebook(1)", x.rebook(1, 1), -101);
        check.same("flight -1", x.rebook(0, -1), -101);
        check.same("flight 6", x.rebook(0, 6), -101);
        check.same("its flight already", x.rebook(0, 0), -105);
        check.same("changes", x.count(15), 1);
        check.same("to flight 3", x.rebook(0, 3), 3);
        check.same("its flight", x.rider(0, 0), 3);
        x.ride(3, 0, 0, 4);
        check.same("to the flight of a full van", x.rebook(0, 1), 1);
        check.same("the other has it now", x.rider(1, 5), 3);
        check.same("back: the lower number is ahead", x.rebook(0, 3), 3);
        check.same("the other is stranded", x.rider(1, 5), -106);
        x.undo();
        check.same("the greater number is behind", x.rebook(1, 1), -106);
    }

    private static void errorsChangeNothing() {
        ShuttleDoors x = new ShuttleDoors();
        x.ride(0, 0, 0, 1);
        x.set(0, 91);
        x.land(0, 1201);
        x.delay(0, 301);
        x.van(0, 0, 13);
        x.ride(0, 0, 0, 0);
        x.read();
        x.cancel(1);
        x.rebook(0, 0);
        x.restore(0);
        x.restore(2);
        check.same("changes", x.count(15), 1);
        check.same("ready", x.rider(0, 4), 30);
        check.same("leaves", x.vanOf(0, 0), 60);
        check.same("undo", x.undo(), 0);
        check.same("riders", x.count(5), 0);
    }
}
