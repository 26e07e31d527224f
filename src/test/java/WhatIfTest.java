/** Promises 16 to 19: ifDelayed, mostDelay, bestMinute, fullest. */
public final class WhatIfTest {
    private static final Check check = new Check("WhatIfTest");

    public static void main(String[] args) {
        ifDelayed();
        mostDelay();
        bestMinute();
        fullest();
        nothingChanges();
        check.end();
    }

    private static void ifDelayed() {
        ShuttleDoors x = new ShuttleDoors();
        check.same("without riders", x.ifDelayed(0, 0, 0), 0);
        check.same("without riders, last", x.ifDelayed(0, 0, 2), -106);
        x.ride(0, 1, 1, 2);
        x.ride(1, 2, 2, 3);
        x.ride(0, 1, 2, 3);
        check.same("on time, stranded", x.ifDelayed(0, 0, 0), 0);
        check.same("on time, waiting", x.ifDelayed(0, 0, 1), 8 * 30);
        check.same("on time, last", x.ifDelayed(0, 0, 2), 140);
        // Ready at 70: both would go at 120, where the other, ready at 90, finds no seats.
        check.same("40 late, stranded", x.ifDelayed(0, 40, 0), 3);
        check.same("40 late, waiting", x.ifDelayed(0, 40, 1), 5 * 50);
        check.same("40 late, last", x.ifDelayed(0, 40, 2), 138);
        check.same("earlier, stranded", x.ifDelayed(0, -30, 0), 0);
        check.same("earlier, waiting", x.ifDelayed(0, -30, 1), 5 * 60 + 3 * 30);
        check.same("300 late", x.ifDelayed(0, 300, 1), 3 * 30 + 5 * 30);
        check.same("300 late, last", x.ifDelayed(0, 300, 2), 360 + 18);
        x.delay(0, 40);
        check.same("it is another delay, not one more", x.ifDelayed(0, 0, 0), 0);
        check.same("flight -1", x.ifDelayed(-1, 0, 0), -101);
        check.same("flight 6, ahead of minutes", x.ifDelayed(6, 301, 3), -101);
        check.same("minutes -31", x.ifDelayed(0, -31, 0), -102);
        check.same("minutes 301", x.ifDelayed(0, 301, 0), -102);
        check.same("what -1", x.ifDelayed(0, 0, -1), -102);
        check.same("what 3", x.ifDelayed(0, 0, 3), -102);
    }

    private static void mostDelay() {
        ShuttleDoors x = new ShuttleDoors();
        check.same("flight -1", x.mostDelay(-1), -101);
        check.same("flight 6", x.mostDelay(6), -101);
        check.same("without riders", x.mostDelay(0), 300);
        x.ride(0, 0, 0, 4);
        check.same("vans go on", x.mostDelay(0), 300);
        for (int v = 1; v < 8; v++) {
            x.van(v, 1500, 0);
        }
        check.same("until the only van leaves", x.mostDelay(0), 30);
        x.delay(0, 31);
        check.same("stranded already", x.mostDelay(0), 300);
        x.delay(0, -30);
        check.same("as from the delay of now", x.mostDelay(0), 30);
        x.van(0, 0, 6);
        x.set(ShuttleDoors.BAGS, 30);
        check.same("only the least", x.mostDelay(0), -30);
        check.same("the others are free", x.mostDelay(1), 300);
        ShuttleDoors y = new ShuttleDoors();
        for (int v = 2; v < 8; v++) {
            y.van(v, 1500, 0);
        }
        y.ride(0, 0, 0, 4);
        y.ride(1, 0, 0, 4);
        // From 31 on the first would be in van 1, ahead of the other until 60.
        check.same("later, but with none more stranded", y.mostDelay(0), 30);
        y.van(1, 120, 8);
        check.same("both in one", y.mostDelay(0), 90);
        y.delay(0, 91);
        check.same("one is stranded now", y.count(8), 4);
        y.van(7, 330, 4);
        check.same("none would be, that late", y.ifDelayed(0, 300, 0), 0);
        check.same("fewer stranded will do", y.mostDelay(0), 300);
    }

    private static void bestMinute() {
        ShuttleDoors x = new ShuttleDoors();
        check.same("van -1", x.bestMinute(-1), -101);
        check.same("van 8", x.bestMinute(8), -101);
        check.same("without riders", x.bestMinute(3), 0);
        x.ride(0, 0, 0, 1);
        check.same("at once", x.bestMinute(0), 30);
        x.set(ShuttleDoors.BAGS, 31);
        check.same("the next of the fives", x.bestMinute(0), 35);
        x.van(0, 60, 0);
        check.same("without seats all are the same", x.bestMinute(0), 0);
        x.van(0, 1500, 6);
        x.ride(0, 0, 0, 1);
        x.ride(1, 0, 0, 4);
        x.van(1, 91, 5);
        check.same("the fewest stranded, then the least waiting", x.bestMinute(0), 35);
        x.land(0, 1200);
        x.land(1, 1200);
        check.same("late", x.bestMinute(0), 1235);
        x.delay(0, 299);
        x.cancel(2);
        x.set(ShuttleDoors.BAGS, 1);
        check.same("the last one", x.bestMinute(0), 1500);
        x.set(ShuttleDoors.BAGS, 2);
        check.same("none is late enough", x.bestMinute(0), 0);
        ShuttleDoors y = new ShuttleDoors();
        for (int v = 1; v < 8; v++) {
            y.van(v, 0, 0);
        }
        y.van(0, 0, 12);
        y.ride(0, 0, 0, 1);
        y.ride(1, 0, 0, 4);
        check.same("the only minute for both", y.bestMinute(0), 90);
        y.set(ShuttleDoors.PATIENCE, 50);
        check.same("the more people", y.bestMinute(0), 90);
        y.cancel(1);
        y.ride(1, 0, 0, 1);
        check.same("as many people, as little waiting: the least", y.bestMinute(0), 30);
        ShuttleDoors z = new ShuttleDoors();
        for (int v = 0; v < 8; v++) {
            z.van(v, 0, 0);
        }
        z.ride(0, 0, 0, 2);
        z.ride(1, 0, 0, 1);
        z.van(1, 40, 4);
        z.van(0, 0, 1);
        // The first goes in van 1; the second is stranded but for 90 to 150.
        check.same("the least waiting of the fewest stranded", z.bestMinute(0), 90);
        z.van(2, 1100, 1);
        z.land(1, 1010);
        z.set(ShuttleDoors.PATIENCE, 240);
        // Nobody is stranded at any minute; the second waits 60 in van 2, and in van 0 from 0 on.
        check.same("less waiting, then more again", z.bestMinute(0), 1040);
        z.van(2, 1041, 1);
        z.land(2, 1007);
        z.ride(2, 0, 0, 1);
        // Ready at 1040 and 1037: at 1040 they wait 1 and 3, at 1045 they would wait 5 and 4.
        check.same("both go, and wait the least", z.bestMinute(0), 1040);
    }

    private static void fullest() {
        ShuttleDoors x = new ShuttleDoors();
        check.same("without riders", x.fullest(), -106);
        x.ride(1, 0, 0, 1);
        check.same("one alone", x.fullest(), 1);
        x.cancel(0);
        x.ride(3, 0, 0, 2);
        check.same("the only one", x.fullest(), 3);
        x.ride(0, 0, 0, 3);
        check.same("van 0", x.fullest(), 0);
        x.cancel(1);
        x.ride(5, 0, 0, 3);
        check.same("most people", x.fullest(), 5);
        x.ride(2, 0, 0, 3);
        check.same("of several the lowest", x.fullest(), 2);
        x.ride(3, 0, 0, 1);
        check.same("three in each", x.fullest(), 2);
        x.ride(3, 0, 0, 1);
        check.same("four", x.fullest(), 3);
        for (int v = 0; v < 8; v++) {
            x.van(v, 1500, 12);
        }
        check.same("all are stranded", x.fullest(), -106);
    }

    private static void nothingChanges() {
        ShuttleDoors x = new ShuttleDoors();
        x.ride(0, 0, 0, 4);
        x.ride(1, 1, 1, 4);
        x.ifDelayed(0, 300, 0);
        x.mostDelay(0);
        x.bestMinute(0);
        x.fullest();
        check.same("delay", x.flight(0, 1), 0);
        check.same("leaves", x.vanOf(0, 0), 60);
        check.same("its van", x.rider(0, 5), 0);
        check.same("people in it", x.vanOf(0, 2), 4);
        check.same("changes", x.count(15), 2);
        x.bestMinute(0);
        check.same("ready", x.rider(0, 4), 30);
        check.same("what follows stands on now", x.rebook(1, 2), 2);
    }
}
