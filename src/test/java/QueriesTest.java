/** Promises 10 to 15: rider, vanOf, flight, stop, count, kerb. */
public final class QueriesTest {
    private static final Check check = new Check("QueriesTest");

    public static void main(String[] args) {
        orderOfRiders();
        orderOfVans();
        patience();
        areas();
        rider();
        fares();
        faresLeftOver();
        vanOf();
        way();
        flight();
        stop();
        count();
        kerb();
        afterCancel();
        check.end();
    }

    private static void vans(String name, ShuttleDoors x, int... due) {
        for (int r = 0; r < due.length; r++) {
            check.same(name + ", van of " + r, x.rider(r, 5), due[r]);
        }
    }

    private static void orderOfRiders() {
        ShuttleDoors x = Texts.airport("1a0x4,0a0x4,0a0x2,1a0x1");
        x.set(ShuttleDoors.PATIENCE, 240);
        vans("by ready", x, 1, 0, 0, 1);
        x.land(0, 60);
        vans("of several by number", x, 1, 2, 1, 2);
        x.delay(1, 1);
        vans("a delay puts behind", x, 2, 1, 1, 2);
    }

    private static void orderOfVans() {
        ShuttleDoors x = Texts.airport("0a0x2,0a0x2,0a0x2");
        x.van(3, 50, 2);
        x.van(6, 50, 2);
        x.van(0, 51, 2);
        vans("by minute, then by number", x, 3, 6, 0);
        x.van(7, 40, 3);
        vans("the first that has the seats", x, 7, 3, 6);
        x.van(7, 29, 12);
        vans("none that left", x, 3, 6, 0);
    }

    private static void patience() {
        ShuttleDoors x = Texts.airport("0a0");
        x.van(1, 1500, 6);
        x.van(0, 90, 6);
        vans("60 minutes", x, 0);
        x.van(0, 91, 6);
        vans("61 minutes", x, -106);
        x.set(ShuttleDoors.PATIENCE, 61);
        vans("more patience", x, 0);
        x.van(0, 30, 6);
        x.set(ShuttleDoors.PATIENCE, 0);
        vans("at once", x, 0);
        x.van(0, 29, 6);
        vans("too early", x, -106);
        x.van(0, 31, 6);
        vans("too late", x, -106);
    }

    private static void areas() {
        ShuttleDoors x = Texts.airport("0a0,0b0,0c0,0d0,0c1,0a9");
        vans("three areas", x, 0, 0, 0, -106, 0, 0);
        check.same("areas as a set", x.vanOf(0, 4), 7);
        x.set(ShuttleDoors.AREAS, 1);
        vans("one area", x, 0, -106, -106, -106, -106, 0);
        x.set(ShuttleDoors.AREAS, 4);
        vans("four areas", x, 0, 0, 0, 0, 0, 0);
    }

    private static void rider() {
        ShuttleDoors x = Texts.airport("2c7x2,2c7,2e8,2c7x3");
        int[] due = {2, 2, 7, 2, 150, 2, 30, 200, 34, 1};
        for (int what = 0; what < due.length; what++) {
            check.same("rider(0, " + what + ")", x.rider(0, what), due[what]);
        }
        int[] stranded = {2, 2, 7, 3, 150, -106, -106, -106, 0, 0};
        for (int what = 0; what < stranded.length; what++) {
            check.same("rider(3, " + what + ")", x.rider(3, what), stranded[what]);
        }
        check.same("the other at the stop", x.rider(1, 9), 1);
        check.same("alone at its stop", x.rider(2, 9), 0);
        check.same("rider(-1)", x.rider(-1, 0), -101);
        check.same("rider(4), ahead of what", x.rider(4, 10), -101);
        check.same("what -1", x.rider(0, -1), -102);
        check.same("what 10", x.rider(0, 10), -102);
        check.same("what 10 of a stranded one", x.rider(3, 10), -102);
        check.same("changes", x.count(15), 1);
        ShuttleDoors y = Texts.airport("0b7,0c7,0b8,1b7");
        check.same("same door, another area", y.rider(0, 9), 0);
        check.same("same stop, another van", y.rider(3, 9), 0);
        y.van(0, 60, 0);
        y.set(ShuttleDoors.PATIENCE, 0);
        check.same("all are stranded", y.count(7), 4);
        check.same("stranded ones share nothing", y.rider(0, 9), 0);
    }

    private static void fares() {
        ShuttleDoors x = Texts.airport("0a0x2,0a0,0b0x3");
        check.same("20 and 4", x.rider(0, 8), 24);
        check.same("10 and 2", x.rider(1, 8), 12);
        check.same("30 and 6", x.rider(2, 8), 36);
        x.set(ShuttleDoors.COST, 0);
        check.same("the door alone", x.rider(0, 8), 4);
        x.set(ShuttleDoors.DOOR, 0);
        check.same("nothing", x.rider(0, 8), 0);
        x.set(ShuttleDoors.COST, 300);
        check.same("the cost alone", x.rider(2, 8), 150);
    }

    private static void faresLeftOver() {
        // Ready are they in the order 2, 0, 1, 3; but what is left over goes by numbers.
        ShuttleDoors x = Texts.airport("1a5,1a6,0a5,1b1x3");
        x.set(ShuttleDoors.COST, 11);
        x.set(ShuttleDoors.DOOR, 7);
        x.van(0, 90, 6);
        x.land(0, 59);
        vans("all in van 0", x, 0, 0, 0, 0);
        // COST: 1, 1, 1, 5 and 3 more; DOOR at a5: 3, 3 and 1 more.
        check.same("2 and 4", x.rider(0, 8), 6);
        check.same("2 and 7", x.rider(1, 8), 9);
        check.same("2 and 3", x.rider(2, 8), 5);
        check.same("5 and 7", x.rider(3, 8), 12);
        check.same("all", x.vanOf(0, 7), 11 + 3 * 7);
        x.set(ShuttleDoors.COST, 1);
        x.set(ShuttleDoors.DOOR, 0);
        check.same("the only coin", x.rider(0, 8), 1);
        check.same("none", x.rider(1, 8), 0);
        check.same("none for the most people", x.rider(3, 8), 0);
        check.same("the coin of the one who goes goes on", x.cancel(0), 1);
        check.same("to the next", x.rider(0, 8), 1);
    }

    private static void vanOf() {
        ShuttleDoors x = Texts.airport("0b3x2,1a1,0f3,0b3");
        int[] due = {60, 6, 4, 0b1101, 0b100010, 2, 95, 72};
        for (int what = 0; what < due.length; what++) {
            check.same("vanOf(0, " + what + ")", x.vanOf(0, what), due[what]);
        }
        int[] empty = {180, 6, 0, 0, 0, 0, -106, 0};
        for (int what = 0; what < empty.length; what++) {
            check.same("vanOf(2, " + what + ")", x.vanOf(2, what), empty[what]);
        }
        check.same("riders of van 1", x.vanOf(1, 3), 2);
        check.same("vanOf(-1)", x.vanOf(-1, 0), -101);
        check.same("vanOf(8), ahead of what", x.vanOf(8, 8), -101);
        check.same("what -1", x.vanOf(0, -1), -102);
        check.same("what 8", x.vanOf(0, 8), -102);
        ShuttleDoors y = new ShuttleDoors();
        y.van(0, 60, 12);
        y.van(1, 60, 12);
        y.set(ShuttleDoors.AREAS, 6);
        for (int r = 0; r < 24; r++) {
            y.ride(0, r % 6, r, 1);
        }
        check.same("riders 0 to 11", y.vanOf(0, 3), 0xfff);
        check.same("riders 12 to 23", y.vanOf(1, 3), 0xfff000);
        check.same("all areas", y.vanOf(1, 4), 63);
        check.same("12 stops", y.vanOf(1, 5), 12);
        check.same("10, 5 areas of 5, 6 times 3", y.vanOf(1, 6), 60 + 10 + 25 + 18);
        check.same("fares", y.vanOf(1, 7), 60 + 12 * 6);
    }

    private static void way() {
        ShuttleDoors x = Texts.airport("0f1,0c50,0c9,0c50,0d0,0c0");
        int[][] due = {{2, 0, 80, 1}, {2, 9, 83, 1}, {2, 50, 86, 2}, {3, 0, 91, 1}, {5, 1, 101, 1}};
        for (int place = 0; place < due.length; place++) {
            for (int what = 0; what < 4; what++) {
                check.same("stop(0, " + place + ", " + what + ")", x.stop(0, place, what), due[place][what]);
            }
        }
        int[] atDoor = {101, 86, 83, 86, 91, 80};
        for (int r = 0; r < atDoor.length; r++) {
            check.same("at the door, " + r, x.rider(r, 7), atDoor[r]);
        }
    }

    private static void flight() {
        ShuttleDoors x = Texts.airport("2a0x4,2a0x3,3a0x2,2a0x1");
        x.delay(2, -10);
        int[] due = {120, -10, 140, 8, 3};
        for (int what = 0; what < due.length; what++) {
            check.same("flight(2, " + what + ")", x.flight(2, what), due[what]);
        }
        check.same("people of 3", x.flight(3, 3), 2);
        check.same("stranded of 3", x.flight(3, 4), 0);
        check.same("flight(-1)", x.flight(-1, 0), -101);
        check.same("flight(6), ahead of what", x.flight(6, 5), -101);
        check.same("what -1", x.flight(0, -1), -102);
        check.same("what 5", x.flight(0, 5), -102);
    }

    private static void stop() {
        ShuttleDoors x = Texts.airport("0f99x4");
        int[] due = {5, 99, 95, 4};
        for (int what = 0; what < due.length; what++) {
            check.same("stop(0, 0, " + what + ")", x.stop(0, 0, what), due[what]);
        }
        check.same("place -1", x.stop(0, -1, 0), -101);
        check.same("place 1, ahead of what", x.stop(0, 1, 4), -101);
        check.same("place far off", x.stop(0, Integer.MAX_VALUE, 0), -101);
        check.same("place far below", x.stop(0, Integer.MIN_VALUE, 0), -101);
        check.same("van -1", x.stop(-1, 0, 0), -101);
        check.same("van 8, ahead of what", x.stop(8, 0, 4), -101);
        check.same("a van without stops", x.stop(1, 0, 0), -101);
        check.same("what -1", x.stop(0, 0, -1), -102);
        check.same("what 4", x.stop(0, 0, 4), -102);
    }

    private static void count() {
        ShuttleDoors x = Texts.airport("0a1x2,0a1,1f2x4,0a0x4");
        x.set(0, 29);
        Texts.put(x, "abc");
        // Ready at 29, 29, 89, 29; vans 0, 0, 1 and none; 31 minutes each.
        int[] due = {29, 60, 3, 60, 6, 4, 11, 1, 4, 7 * 31, 60 + 6 + 60 + 6, 2, 2, 155, 3, 2};
        for (int what = 0; what < due.length; what++) {
            check.same("count(" + what + ")", x.count(what), due[what]);
        }
        check.same("count(-1)", x.count(-1), -102);
        check.same("count(16)", x.count(16), -102);
        x.van(2, 90, 4);
        check.same("the last is at its door earlier", x.count(13), 90 + 35);
        x.van(0, 1500, 0);
        x.set(ShuttleDoors.PATIENCE, 0);
        check.same("all are stranded", x.count(8), 11);
        check.same("no last one", x.count(13), -106);
        check.same("no waiting", x.count(9), 0);
        check.same("no fares", x.count(10), 0);
        check.same("no stops", x.count(12), 0);
        x.land(1, 61);
        check.same("one goes", x.count(11), 1);
        ShuttleDoors y = Texts.airport("0f0,1a0");
        y.van(0, 90, 6);
        y.van(1, 90, 2);
        y.land(1, 0);
        y.land(0, 1);
        y.set(ShuttleDoors.AREAS, 1);
        check.same("vans 0 and 1", y.count(11), 2);
        check.same("the last one is in the lower van or the greater", y.count(13), 125);
    }

    /** A rider who is gone counts nowhere. */
    private static void afterCancel() {
        ShuttleDoors x = Texts.airport("0a0x2,0a0x3");
        x.cancel(1);
        check.same("people", x.count(6), 2);
        check.same("fares", x.count(10), 66);
        check.same("kerb", x.kerb(30), 2);
        check.same("others at the stop", x.rider(0, 9), 0);
        check.same("people of the flight", x.flight(0, 3), 2);
        check.same("riders as a set", x.vanOf(0, 3), 1);
        check.same("people at the stop", x.stop(0, 0, 3), 2);
        check.same("the last one, in van 0", x.count(13), 70);
        x.cancel(0);
        check.same("fares of nobody", x.count(10), 0);
        check.same("kerb without anybody", x.kerb(30), 0);
        check.same("stops without anybody", x.count(12), 0);
    }

    private static void kerb() {
        ShuttleDoors x = Texts.airport("0a0x2,0a0x4,0a0x3,1a0");
        vans("kerb", x, 0, 0, -106, 1);
        int[][] due = {{0, 0}, {29, 0}, {30, 9}, {59, 9}, {60, 3}, {89, 3}, {90, 4}, {91, 1}, {119, 1}, {120, 0}, {3000, 0}};
        for (int[] row : due) {
            check.same("kerb(" + row[0] + ")", x.kerb(row[0]), row[1]);
        }
        check.same("kerb(-1)", x.kerb(-1), -102);
        check.same("kerb(3001)", x.kerb(3001), -102);
        x.set(ShuttleDoors.BAGS, 0);
        x.delay(0, -30);
        x.set(ShuttleDoors.PATIENCE, 30);
        check.same("ready ahead of minute 0", x.kerb(0), 9);
        check.same("until patience ends", x.kerb(1), 0);
    }
}
