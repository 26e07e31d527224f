import java.util.List;
import java.util.function.Consumer;

/** Terms: vans, who gets which of them, the way, the fares. */
final class VansSentences {
    private static final int NONE = -106;

    private VansSentences() {
    }

    private static Sentence about(String words, Consumer<Check> test) {
        return new Sentence("Terms", words, test);
    }

    static List<Sentence> all() {
        return List.of(
            about("There are 8 vans, 0 to 7.", VansSentences::eightVans),
            about("A van leaves at a minute, 0 to 1500 (at first the van v at 60 * v and 60, together),", VansSentences::leavesAt),
            about("and has seats, 0 to 12 (6 at first).", VansSentences::hasSeats),
            about("Riders get vans one after the other, by the minutes at which they are ready, of several by their numbers.",
                VansSentences::orderOfRiders),
            about("Each gets the first van (by the minutes at which they leave, of several by their numbers)",
                VansSentences::orderOfVans),
            about("that leaves not ahead of the minute at which the rider is ready,", VansSentences::notAheadOfTheRider),
            about("and not more than PATIENCE minutes behind it,", VansSentences::patience),
            about("that has a free seat for each of the people,", VansSentences::freeSeats),
            about("and that goes, with the rider's area, to no more than AREAS areas.", VansSentences::areas),
            about("If there is none, the rider is stranded.", VansSentences::stranded),
            about("A van goes to the areas of its riders from the lowest to the greatest,", VansSentences::areasInOrder),
            about("and in an area to the doors of its riders from the lowest to the greatest;", VansSentences::doorsInOrder),
            about("riders of the same area and door share a stop.", VansSentences::sharedStops),
            about("It comes to the first stop of its way 10 and 5 times the area minutes behind leaving;", VansSentences::firstStop),
            about("to a stop in another area than the one before 5 minutes behind it for each area by which they differ,",
                VansSentences::stopInAnotherArea),
            about("and to another stop in the same area 3 minutes behind the one before.", VansSentences::stopInTheSameArea),
            about("COST is shared by all people of a van: each rider pays COST * its people / all of these;",
                VansSentences::costByPeople),
            about("what is left over is paid, a coin each, by the riders of this van, by their numbers, from the lowest on, "
                + "as far as it goes.", VansSentences::leftOver),
            about("DOOR is shared likewise by the people of each stop, and its riders.", VansSentences::doorByPeople),
            about("The fare of a rider is both together (0 if it is stranded).", VansSentences::fare));
    }

    private static void vans(Check check, String when, ShuttleDoors x, int... due) {
        for (int rider = 0; rider < due.length; rider++) {
            check.same(when + ", van of " + rider, x.rider(rider, 5), due[rider]);
        }
    }

    private static void fares(Check check, String when, ShuttleDoors x, int... due) {
        int all = 0;
        for (int rider = 0; rider < due.length; rider++) {
            check.same(when + ", fare of " + rider, x.rider(rider, 8), due[rider]);
            all += due[rider];
        }
        check.same(when + ", fares of all", x.count(10), all);
    }

    /** A new object in which no van has a seat. */
    private static ShuttleDoors withoutSeats() {
        ShuttleDoors x = new ShuttleDoors();
        for (int van = 0; van < 8; van++) {
            x.van(van, 60 * van + 60, 0);
        }
        return x;
    }

    private static void eightVans(Check check) {
        for (int van : new int[] {0, 1, 2, 3, 4, 5, 6, 7}) {
            ShuttleDoors x = withoutSeats();
            x.ride(0, 0, 0, 1);
            check.same("van " + van, x.van(van, 30, 1), 0);
            check.same("its rider, " + van, x.rider(0, 5), van);
            check.same("vanOf " + van, x.vanOf(van, 2), 1);
            check.same("stop " + van, x.stop(van, 0, 3), 1);
            check.same("bestMinute " + van, x.bestMinute(van), 30);
            check.same("fullest " + van, x.fullest(), van);
        }
        for (int van : new int[] {-1, 8, Integer.MIN_VALUE, Integer.MAX_VALUE}) {
            ShuttleDoors x = Texts.airport("0a0");
            check.same("van " + van, x.van(van, 30, 1), -101);
            check.same("vanOf " + van, x.vanOf(van, 2), -101);
            check.same("stop " + van, x.stop(van, 0, 3), -101);
            check.same("bestMinute " + van, x.bestMinute(van), -101);
        }
    }

    private static void leavesAt(Check check) {
        for (int van = 0; van < 8; van++) {
            ShuttleDoors x = new ShuttleDoors();
            check.same("at first, " + van, x.vanOf(van, 0), 60 * van + 60);
            check.same("one too early, " + van, x.van(van, -1, 6), -102);
            check.same("one too late, " + van, x.van(van, 1501, 6), -102);
            check.same("the least number there is, " + van, x.van(van, Integer.MIN_VALUE, 6), -102);
            check.same("the greatest number there is, " + van, x.van(van, Integer.MAX_VALUE, 6), -102);
            check.same("as before, " + van, x.vanOf(van, 0), 60 * van + 60);
            check.same("the latest, " + van, x.van(van, 1500, 6), 0);
            check.same("it is told, " + van, x.vanOf(van, 0), 1500);
            check.same("the earliest, " + van, x.van(van, 0, 6), 0);
            check.same("it is told, " + van, x.vanOf(van, 0), 0);
        }
    }

    private static void hasSeats(Check check) {
        for (int van = 0; van < 8; van++) {
            ShuttleDoors x = new ShuttleDoors();
            check.same("at first, " + van, x.vanOf(van, 1), 6);
            check.same("one too few, " + van, x.van(van, 60, -1), -102);
            check.same("one too many, " + van, x.van(van, 60, 13), -102);
            check.same("the least number there is, " + van, x.van(van, 60, Integer.MIN_VALUE), -102);
            check.same("the greatest number there is, " + van, x.van(van, 60, Integer.MAX_VALUE), -102);
            check.same("as before, " + van, x.vanOf(van, 1), 6);
            check.same("none, " + van, x.van(van, 60, 0), 0);
            check.same("it is told, " + van, x.vanOf(van, 1), 0);
            check.same("twelve, " + van, x.van(van, 60, 12), 0);
            check.same("it is told, " + van, x.vanOf(van, 1), 12);
        }
    }

    private static void orderOfRiders(Check check) {
        ShuttleDoors x = withoutSeats();
        x.van(0, 60, 4);
        x.land(1, 1);
        x.ride(1, 0, 0, 4);
        x.ride(0, 0, 0, 4);
        vans(check, "ready a minute earlier", x, NONE, 0);
        x.land(1, 0);
        vans(check, "ready at the same minute", x, 0, NONE);
        x.delay(0, -1);
        vans(check, "earlier by a delay", x, NONE, 0);
        x.cancel(0);
        x.ride(1, 0, 0, 4);
        vans(check, "earlier, with the lower number", x, 0, NONE);
        ShuttleDoors y = withoutSeats();
        y.van(5, 60, 12);
        y.van(2, 60, 11);
        for (int rider = 0; rider < 24; rider++) {
            y.ride(0, 0, rider, 1);
        }
        for (int rider = 0; rider < 24; rider++) {
            check.same("24 at the same minute, " + rider, y.rider(rider, 5), rider < 11 ? 2 : rider < 23 ? 5 : NONE);
        }
        ShuttleDoors z = withoutSeats();
        z.van(0, 100, 5);
        for (int flight = 0; flight < 6; flight++) {
            z.land(flight, 10 - flight);
            z.ride(flight, 0, 0, 1);
        }
        z.set(ShuttleDoors.PATIENCE, 240);
        vans(check, "the last come first", z, NONE, 0, 0, 0, 0, 0);
    }

    private static void orderOfVans(Check check) {
        ShuttleDoors x = new ShuttleDoors();
        x.ride(0, 0, 0, 1);
        x.van(7, 60, 6);
        vans(check, "at the same minute the lower number", x, 0);
        x.van(7, 59, 6);
        vans(check, "a minute earlier", x, 7);
        x.van(0, 59, 6);
        vans(check, "at the same minute again", x, 0);
        x.van(0, 59, 0);
        vans(check, "the first one is full", x, 7);
        ShuttleDoors y = new ShuttleDoors();
        ShuttleDoors z = new ShuttleDoors();
        for (int van = 0; van < 8; van++) {
            y.van(van, 60, 1);
            z.van(van, 60 - van, 1);
        }
        for (int rider = 0; rider < 9; rider++) {
            y.ride(0, 0, 0, 1);
            z.ride(0, 0, 0, 1);
        }
        vans(check, "all at the same minute", y, 0, 1, 2, 3, 4, 5, 6, 7, NONE);
        vans(check, "the greatest first", z, 7, 6, 5, 4, 3, 2, 1, 0, NONE);
    }

    private static void notAheadOfTheRider(Check check) {
        ShuttleDoors x = new ShuttleDoors();
        x.ride(0, 0, 0, 1);
        x.van(1, 90, 6);
        x.van(0, 31, 6);
        vans(check, "a minute later", x, 0);
        x.van(0, 30, 6);
        vans(check, "at this minute", x, 0);
        check.same("without waiting", x.rider(0, 6), 0);
        x.van(0, 29, 6);
        vans(check, "a minute ahead", x, 1);
        x.set(ShuttleDoors.BAGS, 0);
        x.delay(0, -30);
        x.van(0, 0, 6);
        vans(check, "ready ahead of minute 0", x, 0);
        ShuttleDoors y = new ShuttleDoors();
        y.ride(0, 0, 0, 1);
        y.land(0, 1200);
        y.delay(0, 270);
        y.van(7, 1500, 6);
        vans(check, "the latest van", y, 7);
        y.delay(0, 271);
        vans(check, "a minute later than all vans", y, NONE);
    }

    private static void patience(Check check) {
        for (int patience : new int[] {0, 1, 60, 239, 240}) {
            ShuttleDoors x = withoutSeats();
            x.ride(0, 0, 0, 1);
            x.set(ShuttleDoors.PATIENCE, patience);
            check.same("as long, " + patience, x.van(0, 30 + patience, 6), 0);
            check.same("it waits, " + patience, x.rider(0, 6), patience);
            check.same("a minute longer, " + patience, x.van(0, 31 + patience, 6), 1);
            check.same("another one that leaves at once, " + patience, x.van(5, 30, 6), 0);
        }
    }

    private static void freeSeats(Check check) {
        for (int people = 1; people <= 4; people++) {
            for (int seats = 0; seats <= 12; seats++) {
                ShuttleDoors x = withoutSeats();
                for (int rider = 0; rider < 13; rider++) {
                    x.ride(0, 0, 0, people);
                }
                int going = seats / people;
                String when = people + " people, " + seats + " seats";
                check.same(when, x.van(0, 60, seats), (13 - going) * people);
                check.same(when + ", in it", x.vanOf(0, 2), going * people);
                check.same(when + ", those who go", x.vanOf(0, 3), (1 << going) - 1);
            }
        }
        ShuttleDoors x = withoutSeats();
        x.van(0, 60, 7);
        x.ride(0, 0, 0, 4);
        x.ride(0, 0, 0, 4);
        x.ride(0, 0, 0, 3);
        vans(check, "one that needs fewer goes ahead of one that finds too few", x, 0, NONE, 0);
    }

    private static void areas(Check check) {
        for (int most = 1; most <= 6; most++) {
            ShuttleDoors x = withoutSeats();
            x.set(ShuttleDoors.AREAS, most);
            x.van(0, 60, 12);
            for (int area = 5; area >= 0; area--) {
                check.same("area " + area, x.ride(0, area, 0, 1), 5 - area);
                check.same("of " + most + ", area " + area, x.rider(5 - area, 5), 5 - area < most ? 0 : NONE);
            }
            check.same("once more an area to which it goes", x.ride(0, 5, 9, 1), 6);
            check.same("of " + most + ", once more", x.rider(6, 5), 0);
            check.same("areas of " + most, Integer.bitCount(x.vanOf(0, 4)), most);
        }
        ShuttleDoors y = Texts.airport("0a0,0b0,0c0,0d0");
        y.van(6, 70, 6);
        vans(check, "the next van goes there", y, 0, 0, 0, 6);
    }

    private static void stranded(Check check) {
        ShuttleDoors x = withoutSeats();
        x.ride(0, 0, 0, 2);
        vans(check, "no van has seats", x, NONE);
        check.same("riders", x.count(7), 1);
        check.same("people", x.count(8), 2);
        check.same("in no van", x.count(11), 0);
        x.van(3, 60, 1);
        vans(check, "too few seats", x, NONE);
        x.van(3, 60, 2);
        vans(check, "enough", x, 3);
        check.same("riders", x.count(7), 0);
        check.same("people", x.count(8), 0);
        ShuttleDoors y = new ShuttleDoors();
        for (int rider = 0; rider < 24; rider++) {
            y.ride(0, 0, 0, 4);
        }
        check.same("of 24 one goes", y.count(7), 23);
        check.same("with all its people", y.count(8), 92);
        check.same("all of them", y.van(0, 60, 0), 96);
        check.same("all riders", y.count(7), 24);
    }

    private static void areasInOrder(Check check) {
        ShuttleDoors x = new ShuttleDoors();
        x.set(ShuttleDoors.AREAS, 6);
        int[] areas = {3, 0, 5, 2, 4, 1};
        for (int rider = 0; rider < 6; rider++) {
            x.ride(0, areas[rider], 90 - areas[rider], 1);
        }
        for (int place = 0; place < 6; place++) {
            check.same("area of place " + place, x.stop(0, place, 0), place);
            check.same("door of place " + place, x.stop(0, place, 1), 90 - place);
        }
        check.same("no place 6", x.stop(0, 6, 0), -101);
    }

    private static void doorsInOrder(Check check) {
        ShuttleDoors x = new ShuttleDoors();
        x.van(0, 60, 12);
        int[] doors = {50, 0, 99, 1, 98, 10, 9};
        for (int door : doors) {
            x.ride(0, 4, door, 1);
        }
        x.ride(0, 5, 0, 1);
        x.ride(0, 3, 99, 1);
        int[] due = {99, 0, 1, 9, 10, 50, 98, 99, 0};
        for (int place = 0; place < due.length; place++) {
            check.same("door of place " + place, x.stop(0, place, 1), due[place]);
            check.same("area of place " + place, x.stop(0, place, 0), place == 0 ? 3 : place < 8 ? 4 : 5);
        }
        check.same("no place 9", x.stop(0, 9, 1), -101);
    }

    private static void sharedStops(Check check) {
        ShuttleDoors x = Texts.airport("0b7x2,0b7,0b8,0c7,1b7");
        check.same("same area and door", x.rider(0, 9), 1);
        check.same("likewise", x.rider(1, 9), 1);
        check.same("another door", x.rider(2, 9), 0);
        check.same("another area", x.rider(3, 9), 0);
        check.same("another van", x.rider(4, 9), 0);
        check.same("stops", x.vanOf(0, 5), 3);
        check.same("stops of the other van", x.vanOf(1, 5), 1);
        check.same("people at the shared one", x.stop(0, 0, 3), 3);
        check.same("people at the next", x.stop(0, 1, 3), 1);
        ShuttleDoors y = withoutSeats();
        y.van(0, 60, 12);
        for (int rider = 0; rider < 12; rider++) {
            y.ride(0, 5, 99, 1);
            check.same("all at one stop", y.vanOf(0, 5), 1);
            check.same("with how many others", y.rider(0, 9), rider);
        }
    }

    private static void firstStop(Check check) {
        for (int area = 0; area < 6; area++) {
            for (int door : new int[] {0, 99}) {
                ShuttleDoors x = new ShuttleDoors();
                x.ride(0, area, door, 1);
                check.same("area " + area + ", door " + door, x.stop(0, 0, 2), 70 + 5 * area);
                x.van(0, 30, 6);
                check.same("leaving earlier, " + area, x.stop(0, 0, 2), 40 + 5 * area);
            }
        }
        ShuttleDoors x = new ShuttleDoors();
        x.land(0, 1200);
        x.delay(0, 270);
        x.van(0, 1500, 6);
        x.ride(0, 5, 99, 1);
        check.same("the latest", x.stop(0, 0, 2), 1535);
        x.land(0, 0);
        x.delay(0, -30);
        x.van(0, 0, 6);
        check.same("the earliest", x.stop(0, 0, 2), 35);
    }

    private static void stopInAnotherArea(Check check) {
        for (int first = 0; first < 5; first++) {
            for (int next = first + 1; next < 6; next++) {
                ShuttleDoors x = new ShuttleDoors();
                x.ride(0, next, 0, 1);
                x.ride(0, first, 99, 1);
                check.same("from " + first + " to " + next, x.stop(0, 1, 2), x.stop(0, 0, 2) + 5 * (next - first));
                check.same("in all", x.stop(0, 1, 2), 70 + 5 * next);
            }
        }
    }

    private static void stopInTheSameArea(Check check) {
        for (int area = 0; area < 6; area++) {
            ShuttleDoors x = withoutSeats();
            x.van(0, 60, 12);
            for (int rider = 0; rider < 12; rider++) {
                x.ride(0, area, rider == 11 ? 99 : rider, 1);
            }
            for (int place = 0; place < 12; place++) {
                check.same("area " + area + ", place " + place, x.stop(0, place, 2), 70 + 5 * area + 3 * place);
            }
        }
        ShuttleDoors y = Texts.airport("0a0,0a1,0c0,0c5,0c5");
        int[] due = {70, 73, 83, 86};
        for (int place = 0; place < due.length; place++) {
            check.same("place " + place, y.stop(0, place, 2), due[place]);
        }
    }

    private static void costByPeople(Check check) {
        ShuttleDoors x = Texts.airport("0a0x4,0b0x3,0c0x2,0a1");
        x.van(0, 60, 12);
        x.set(ShuttleDoors.DOOR, 0);
        fares(check, "60 by 10 people", x, 24, 18, 12, 6);
        x.set(ShuttleDoors.COST, 300);
        fares(check, "300", x, 120, 90, 60, 30);
        x.set(ShuttleDoors.COST, 0);
        fares(check, "nothing", x, 0, 0, 0, 0);
        x.set(ShuttleDoors.COST, 60);
        x.van(0, 60, 4);
        fares(check, "alone", x, 60, 0, 0, 0);
        x.rebook(1, 1);
        fares(check, "each van has its cost", x, 60, 60, 0, 0);
        ShuttleDoors y = withoutSeats();
        y.van(0, 60, 12);
        y.set(ShuttleDoors.DOOR, 0);
        for (int rider = 0; rider < 12; rider++) {
            y.ride(0, 0, 0, 1);
        }
        check.same("as many as can be", y.rider(11, 8), 5);
    }

    private static void leftOver(Check check) {
        ShuttleDoors x = withoutSeats();
        x.van(0, 60, 12);
        x.set(ShuttleDoors.DOOR, 0);
        for (int rider = 0; rider < 7; rider++) {
            x.ride(0, 0, rider, 1);
        }
        for (int left = 0; left < 7; left++) {
            x.set(ShuttleDoors.COST, 14 + left);
            for (int rider = 0; rider < 7; rider++) {
                check.same(left + " left over, rider " + rider, x.rider(rider, 8), rider < left ? 3 : 2);
            }
        }
        ShuttleDoors y = Texts.airport("1a0,0a1,1a2,0a3x3");
        y.set(ShuttleDoors.DOOR, 0);
        y.land(1, 1);
        y.van(0, 31, 6);
        y.set(ShuttleDoors.COST, 8);
        // The riders of flight 0 are ready first; 1, 1, 1, 4 leave 1.
        fares(check, "by numbers, not by minutes", y, 2, 1, 1, 4);
        y.van(1, 60, 6);
        y.van(0, 30, 6);
        y.set(ShuttleDoors.COST, 7);
        // Van 0 has riders 1 and 3: 1 and 5 leave 1; van 1 has 0 and 2: 3 and 3 leave 1.
        fares(check, "in each van from its lowest on", y, 4, 2, 3, 5);
    }

    private static void doorByPeople(Check check) {
        ShuttleDoors x = Texts.airport("0a0x2,0a0,0b0x3,1a0");
        x.set(ShuttleDoors.COST, 0);
        fares(check, "6 at each stop", x, 4, 2, 6, 6);
        x.set(ShuttleDoors.DOOR, 40);
        // 26 and 13 leave 1.
        fares(check, "40 at each stop", x, 27, 13, 40, 40);
        x.set(ShuttleDoors.DOOR, 0);
        fares(check, "nothing", x, 0, 0, 0, 0);
        ShuttleDoors y = Texts.airport("0b5,0a5,0a5,0b5,0a5,0b5x2");
        y.van(0, 60, 12);
        y.set(ShuttleDoors.COST, 0);
        y.set(ShuttleDoors.DOOR, 11);
        // At a5 3, 3, 3 leave 2; at b5 2, 2, 5 leave 2.
        fares(check, "left over at each stop from its lowest on", y, 3, 4, 4, 3, 3, 5);
        y.set(ShuttleDoors.DOOR, 1);
        fares(check, "a coin for the lowest alone", y, 1, 1, 0, 0, 0, 0);
        y.rebook(2, 1);
        y.set(ShuttleDoors.DOOR, 6);
        // Rider 2 has a5 in van 1 for itself.
        fares(check, "in each van", y, 2, 3, 6, 1, 3, 3);
    }

    private static void fare(Check check) {
        ShuttleDoors x = Texts.airport("0a0x2,0b0x4,0a0");
        fares(check, "both; the third is stranded", x, 20 + 6, 40 + 6, 0);
        x.van(0, 60, 3);
        fares(check, "the second is stranded", x, 40 + 4, 0, 20 + 2);
        x.van(0, 60, 0);
        fares(check, "all are stranded", x, 0, 0, 0);
        x.van(0, 60, 12);
        x.set(ShuttleDoors.COST, 300);
        x.set(ShuttleDoors.DOOR, 40);
        // 85, 171, 42 leave 2; at a0 26 and 13 leave 1.
        fares(check, "as much as can be", x, 86 + 27, 172 + 40, 42 + 13);
        x.set(ShuttleDoors.COST, 0);
        x.set(ShuttleDoors.DOOR, 0);
        fares(check, "nothing", x, 0, 0, 0);
    }
}
