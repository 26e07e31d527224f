import java.util.List;

/** Promises 10 to 15: rider, vanOf, flight, stop, count, kerb. */
final class QuestionSentences {
    private static final int NONE = -106;
    private static final int[] FAR = {Integer.MIN_VALUE, Integer.MIN_VALUE + 1, -1000000, 1000000, Integer.MAX_VALUE};

    private QuestionSentences() {
    }

    static List<Sentence> all() {
        String rider = "Promise 10: rider";
        String vanOf = "Promise 11: vanOf";
        String flight = "Promise 12: flight";
        String stop = "Promise 13: stop";
        String count = "Promise 14: count";
        String kerb = "Promise 15: kerb";
        return List.of(
            new Sentence(rider, "`int rider(int rider, int what)`: Returns something about a rider.", QuestionSentences::rider),
            new Sentence(rider, "- `what`: 0 its flight, 1 its area, 2 its door, 3 its people,", QuestionSentences::riderItself),
            new Sentence(rider, "4 the minute at which it is ready,", QuestionSentences::riderReady),
            new Sentence(rider, "5 its van (NONE if it is stranded),", QuestionSentences::riderVan),
            new Sentence(rider, "6 how many minutes it waits for it (NONE likewise),", QuestionSentences::riderWaits),
            new Sentence(rider, "7 the minute at which it is at its door (NONE likewise),", QuestionSentences::riderAtDoor),
            new Sentence(rider, "8 its fare,", QuestionSentences::riderFare),
            new Sentence(rider, "9 with how many other riders it shares its stop (0 if it is stranded)", QuestionSentences::riderShares),
            new Sentence(rider, "Returns the number; NO_SUCH if there is no such rider;", QuestionSentences::riderNoSuch),
            new Sentence(rider, "BAD_VALUE if what is out of range.", QuestionSentences::riderOutOfRange),
            new Sentence(vanOf, "`int vanOf(int van, int what)`: Returns something about a van.", QuestionSentences::vanOf),
            new Sentence(vanOf, "- `what`: 0 the minute at which it leaves, 1 its seats,", QuestionSentences::vanItself),
            new Sentence(vanOf, "2 people in it,", QuestionSentences::vanPeople),
            new Sentence(vanOf, "3 its riders, as a set,", QuestionSentences::vanRiders),
            new Sentence(vanOf, "4 areas to which it goes, as a set,", QuestionSentences::vanAreas),
            new Sentence(vanOf, "5 its stops, how many,", QuestionSentences::vanStops),
            new Sentence(vanOf, "6 the minute at which it is at its last stop (NONE without one),", QuestionSentences::vanLastStop),
            new Sentence(vanOf, "7 the fares of its riders, together", QuestionSentences::vanFares),
            new Sentence(vanOf, "Returns the number; NO_SUCH if there is no such van;", QuestionSentences::vanNoSuch),
            new Sentence(vanOf, "BAD_VALUE if what is out of range.", QuestionSentences::vanOutOfRange),
            new Sentence(flight, "`int flight(int flight, int what)`: Returns something about a flight.", QuestionSentences::flight),
            new Sentence(flight, "- `what`: 0 the minute at which it lands, without its delay, 1 its delay,",
                QuestionSentences::flightItself),
            new Sentence(flight, "2 the minute at which its riders are ready,", QuestionSentences::flightReady),
            new Sentence(flight, "3 people of its riders,", QuestionSentences::flightPeople),
            new Sentence(flight, "4 those of them who are stranded", QuestionSentences::flightStranded),
            new Sentence(flight, "Returns the number; NO_SUCH if there is no such flight;", QuestionSentences::flightNoSuch),
            new Sentence(flight, "BAD_VALUE if what is out of range.", QuestionSentences::flightOutOfRange),
            new Sentence(stop, "`int stop(int van, int place, int what)`: Returns the stop of a van at a place of its way.",
                QuestionSentences::stop),
            new Sentence(stop, "- `place`: 0 for the first one", QuestionSentences::firstPlace),
            new Sentence(stop, "- `what`: 0 its area, 1 its door,", QuestionSentences::stopItself),
            new Sentence(stop, "2 the minute at which the van is there,", QuestionSentences::stopMinute),
            new Sentence(stop, "3 people who get out", QuestionSentences::stopPeople),
            new Sentence(stop, "Returns the number; NO_SUCH if there is no such van or place;", QuestionSentences::stopNoSuch),
            new Sentence(stop, "BAD_VALUE if what is out of range.", QuestionSentences::stopOutOfRange),
            new Sentence(count, "`int count(int what)`: Returns a number.", QuestionSentences::count),
            new Sentence(count, "- `what`: 0 to 4 the settings,", QuestionSentences::countSettings),
            new Sentence(count, "5 riders, 6 people,", QuestionSentences::countRiders),
            new Sentence(count, "7 riders who are stranded, 8 people who are stranded,", QuestionSentences::countStranded),
            new Sentence(count, "9 minutes that all people wait for their vans, together (people of a rider each),",
                QuestionSentences::countWaiting),
            new Sentence(count, "10 fares of all,", QuestionSentences::countFares),
            new Sentence(count, "11 vans that have riders,", QuestionSentences::countVans),
            new Sentence(count, "12 stops of all vans,", QuestionSentences::countStops),
            new Sentence(count, "13 the minute at which the last rider is at its door (NONE without one),",
                QuestionSentences::countLast),
            new Sentence(count, "14 the length of the pad,", QuestionSentences::countPad),
            new Sentence(count, "15 how many changes can be undone", QuestionSentences::countChanges),
            new Sentence(count, "Returns the number; BAD_VALUE if what is out of range.", QuestionSentences::countOutOfRange),
            new Sentence(kerb, "`int kerb(int minute)`: Tells how many people are at the kerb at a minute: those of riders who are "
                + "ready at it or ahead of it, and whose van leaves later,", QuestionSentences::kerbOfRiders),
            new Sentence(kerb, "and those of stranded riders who are ready at it or ahead of it, and have been for at most "
                + "PATIENCE minutes.", QuestionSentences::kerbOfStranded),
            new Sentence(kerb, "- `minute`: 0 to 3000", QuestionSentences::kerbMinutes),
            new Sentence(kerb, "Returns the people;", QuestionSentences::kerbPeople),
            new Sentence(kerb, "BAD_VALUE if minute is out of range.", QuestionSentences::kerbOutOfRange));
    }

    private interface Asked {
        int about(ShuttleDoors x, int what);
    }

    /** Answers to what 0, 1 and so on; what is next to them is out of range. */
    private static void answers(Check check, String name, ShuttleDoors x, Asked asked, int... due) {
        for (int what = 0; what < due.length; what++) {
            check.same(name + ", what " + what, asked.about(x, what), due[what]);
        }
        check.same(name + ", what -1", asked.about(x, -1), -102);
        check.same(name + ", what " + due.length, asked.about(x, due.length), -102);
        for (int what : FAR) {
            check.same(name + ", what " + what, asked.about(x, what), -102);
        }
    }

    /** A new object in which no van but one has seats. */
    private static ShuttleDoors oneVan(int van, int minute, int seats) {
        ShuttleDoors x = new ShuttleDoors();
        for (int other = 0; other < 8; other++) {
            x.van(other, 60 * other + 60, 0);
        }
        x.van(van, minute, seats);
        return x;
    }

    // ---- rider

    private static void rider(Check check) {
        ShuttleDoors x = Texts.airport("2c7x2,2c7,2e8,2c7x3");
        answers(check, "rider 0", x, (y, what) -> y.rider(0, what), 2, 2, 7, 2, 150, 2, 30, 200, 34, 1);
        answers(check, "rider 2", x, (y, what) -> y.rider(2, what), 2, 4, 8, 1, 150, 2, 30, 210, 21, 0);
        answers(check, "rider 3, stranded", x, (y, what) -> y.rider(3, what), 2, 2, 7, 3, 150, NONE, NONE, NONE, 0, 0);
    }

    private static void riderItself(Check check) {
        ShuttleDoors x = new ShuttleDoors();
        int[][] riders = {{0, 0, 0, 1}, {5, 5, 99, 4}, {3, 1, 50, 2}};
        for (int[] r : riders) {
            x.ride(r[0], r[1], r[2], r[3]);
        }
        for (int rider = 0; rider < 3; rider++) {
            for (int what = 0; what < 4; what++) {
                check.same("rider(" + rider + ", " + what + ")", x.rider(rider, what), riders[rider][what]);
            }
        }
    }

    private static void riderReady(Check check) {
        ShuttleDoors x = Texts.airport("0a0,5a0");
        check.same("first flight", x.rider(0, 4), 30);
        check.same("last flight", x.rider(1, 4), 330);
        x.delay(0, -30);
        x.set(ShuttleDoors.BAGS, 0);
        check.same("the earliest", x.rider(0, 4), -30);
        x.delay(5, 300);
        x.land(5, 1200);
        x.set(ShuttleDoors.BAGS, 90);
        check.same("the latest", x.rider(1, 4), 1590);
        check.same("stranded, but ready", x.rider(1, 5), NONE);
    }

    private static void riderVan(Check check) {
        ShuttleDoors x = Texts.airport("0a0x4,0a0x4,5a0");
        check.same("the first van", x.rider(0, 5), 0);
        check.same("stranded", x.rider(1, 5), NONE);
        check.same("another one", x.rider(2, 5), 5);
        x.van(7, 50, 4);
        check.same("the last van", x.rider(0, 5), 7);
        check.same("no longer stranded", x.rider(1, 5), 0);
    }

    private static void riderWaits(Check check) {
        ShuttleDoors x = Texts.airport("0a0x4,0a0x4");
        check.same("half an hour", x.rider(0, 6), 30);
        check.same("stranded", x.rider(1, 6), NONE);
        x.van(0, 30, 6);
        check.same("not at all", x.rider(0, 6), 0);
        x.van(0, 90, 6);
        check.same("as long as patience", x.rider(0, 6), 60);
        x.van(0, 91, 6);
        check.same("longer", x.rider(0, 6), NONE);
        x.set(ShuttleDoors.BAGS, 0);
        x.set(ShuttleDoors.PATIENCE, 240);
        x.delay(0, -30);
        x.van(0, 210, 6);
        x.van(1, 0, 0);
        x.van(2, 0, 0);
        check.same("the longest there is", x.rider(0, 6), 240);
    }

    private static void riderAtDoor(Check check) {
        ShuttleDoors x = Texts.airport("0a0,0f9,0a5,0b0,0a0x4");
        int[] ofThreeAreas = {70, 98, 73, 78, NONE};
        int[] ofTwoAreas = {70, 98, 73, NONE, NONE};
        for (int rider = 0; rider < 5; rider++) {
            x.set(ShuttleDoors.AREAS, 3);
            check.same("rider " + rider, x.rider(rider, 7), ofThreeAreas[rider]);
            x.set(ShuttleDoors.AREAS, 2);
            check.same("to two areas, rider " + rider, x.rider(rider, 7), ofTwoAreas[rider]);
        }
        ShuttleDoors y = Texts.airport("0a0,0a1,0f0");
        check.same("after two stops in an area", y.rider(2, 7), 73 + 25);
        y.cancel(1);
        check.same("after one", y.rider(1, 7), 70 + 25);
        y.cancel(0);
        check.same("the first stop", y.rider(0, 7), 70 + 25);
    }

    private static void riderFare(Check check) {
        ShuttleDoors x = Texts.airport("0a0,0a0,0a0,0b0,0b0x4");
        // 60 by 4 people, 6 by 3 and by 1.
        int[] due = {17, 17, 17, 21, 0};
        for (int rider = 0; rider < due.length; rider++) {
            check.same("rider " + rider, x.rider(rider, 8), due[rider]);
        }
        x.set(ShuttleDoors.COST, 0);
        x.set(ShuttleDoors.DOOR, 0);
        check.same("nothing", x.rider(0, 8), 0);
        x.set(ShuttleDoors.COST, 1);
        check.same("the first pays the coin", x.rider(0, 8), 1);
        check.same("the last does not", x.rider(3, 8), 0);
        check.same("a stranded one neither", x.rider(4, 8), 0);
    }

    private static void riderShares(Check check) {
        ShuttleDoors x = oneVan(0, 60, 12);
        for (int rider = 0; rider < 12; rider++) {
            x.ride(0, 3, 33, 1);
            for (int other = 0; other <= rider; other++) {
                check.same(rider + " others", x.rider(other, 9), rider);
            }
        }
        x.ride(0, 3, 33, 1);
        check.same("stranded", x.rider(12, 9), 0);
        check.same("the others do not share with it", x.rider(0, 9), 11);
        x.ride(0, 3, 33, 1);
        check.same("stranded ones do not share", x.rider(13, 9), 0);
        ShuttleDoors y = Texts.airport("0a5,0b5,0a6,0a5x2,1a5");
        int[] due = {1, 0, 0, 1, 0};
        for (int rider = 0; rider < due.length; rider++) {
            check.same("riders, not people, of rider " + rider, y.rider(rider, 9), due[rider]);
        }
    }

    private static void riderNoSuch(Check check) {
        ShuttleDoors x = new ShuttleDoors();
        check.same("nobody is there", x.rider(0, 0), -101);
        check.same("nor is the thing", x.rider(0, 10), -101);
        for (int riders = 1; riders <= 24; riders++) {
            x.ride(0, 0, 0, 1);
            check.same("the last one", x.rider(riders - 1, 3), 1);
            check.same("one behind the last", x.rider(riders, 3), -101);
        }
        check.same("one ahead of the first", x.rider(-1, 3), -101);
        for (int rider : FAR) {
            check.same("rider " + rider, x.rider(rider, 3), -101);
        }
        x.cancel(23);
        check.same("who has cancelled", x.rider(23, 3), -101);
    }

    private static void riderOutOfRange(Check check) {
        ShuttleDoors x = Texts.airport("0a0,0a0x4,0a0x4");
        for (int rider = 0; rider < 3; rider++) {
            check.same("what -1", x.rider(rider, -1), -102);
            check.same("what 10", x.rider(rider, 10), -102);
            check.holds("what 9", x.rider(rider, 9) >= 0);
            for (int what : FAR) {
                check.same("what " + what, x.rider(rider, what), -102);
            }
        }
    }

    // ---- vanOf

    private static void vanOf(Check check) {
        ShuttleDoors x = Texts.airport("0b3x2,1a1,0f3,0b3");
        answers(check, "van 0", x, (y, what) -> y.vanOf(0, what), 60, 6, 4, 0b1101, 0b100010, 2, 95, 72);
        answers(check, "van 1", x, (y, what) -> y.vanOf(1, what), 120, 6, 1, 0b10, 1, 1, 130, 66);
        answers(check, "van 7", x, (y, what) -> y.vanOf(7, what), 480, 6, 0, 0, 0, 0, NONE, 0);
    }

    private static void vanItself(Check check) {
        ShuttleDoors x = new ShuttleDoors();
        for (int van = 0; van < 8; van++) {
            check.same("leaves at first, " + van, x.vanOf(van, 0), 60 * van + 60);
            check.same("seats at first, " + van, x.vanOf(van, 1), 6);
        }
        x.van(0, 0, 0);
        check.same("the earliest", x.vanOf(0, 0), 0);
        check.same("no seats", x.vanOf(0, 1), 0);
        x.van(7, 1500, 12);
        check.same("the latest", x.vanOf(7, 0), 1500);
        check.same("most seats", x.vanOf(7, 1), 12);
        ShuttleDoors y = Texts.airport("0a0x4");
        check.same("its seats, not those that are free", y.vanOf(0, 1), 6);
    }

    private static void vanPeople(Check check) {
        ShuttleDoors x = oneVan(3, 60, 12);
        for (int rider = 0; rider < 4; rider++) {
            check.same("ahead of rider " + rider, x.vanOf(3, 2), Math.min(4 * rider, 12));
            x.ride(0, 0, 0, 4);
        }
        check.same("full", x.vanOf(3, 2), 12);
        check.same("those of another van", x.vanOf(2, 2), 0);
    }

    private static void vanRiders(Check check) {
        ShuttleDoors x = oneVan(3, 60, 12);
        check.same("none", x.vanOf(3, 3), 0);
        for (int rider = 0; rider < 24; rider++) {
            x.ride(rider < 12 ? 5 : 0, 0, 0, 1);
        }
        check.same("the last twelve of 24", x.vanOf(3, 3), 0xfff000);
        check.same("stranded ones are in no van", x.vanOf(5, 3), 0);
        x.cancel(0);
        check.same("with other numbers then", x.vanOf(3, 3), 0x7ff800);
        x.van(3, 60, 1);
        check.same("one", x.vanOf(3, 3), 0x800);
        check.same("the first alone", Texts.airport("0a0").vanOf(0, 3), 1);
    }

    private static void vanAreas(Check check) {
        ShuttleDoors x = oneVan(3, 60, 12);
        x.set(ShuttleDoors.AREAS, 6);
        check.same("none", x.vanOf(3, 4), 0);
        int due = 0;
        for (int area : new int[] {5, 0, 3, 3, 1, 4, 2}) {
            due |= 1 << area;
            x.ride(0, area, 0, 1);
            check.same("area " + area + " more", x.vanOf(3, 4), due);
        }
        check.same("all six", x.vanOf(3, 4), 63);
        x.set(ShuttleDoors.AREAS, 1);
        check.same("one", x.vanOf(3, 4), 32);
        check.same("none of another van", x.vanOf(0, 4), 0);
    }

    private static void vanStops(Check check) {
        ShuttleDoors x = oneVan(3, 60, 12);
        check.same("none", x.vanOf(3, 5), 0);
        for (int rider = 0; rider < 12; rider++) {
            x.ride(0, 2, 99 - rider, 1);
            check.same("one more", x.vanOf(3, 5), rider + 1);
        }
        x.ride(0, 2, 0, 1);
        check.same("the most", x.vanOf(3, 5), 12);
        ShuttleDoors y = Texts.airport("0a0,0a0,0a1,0b0,0b0,1c0");
        check.same("shared ones count once", y.vanOf(0, 5), 3);
    }

    private static void vanLastStop(Check check) {
        ShuttleDoors x = oneVan(3, 60, 12);
        check.same("without one", x.vanOf(3, 6), NONE);
        x.ride(0, 0, 0, 1);
        check.same("the first is the last", x.vanOf(3, 6), 70);
        x.ride(0, 5, 7, 1);
        check.same("one behind it", x.vanOf(3, 6), 95);
        x.ride(0, 2, 7, 1);
        check.same("one between", x.vanOf(3, 6), 95);
        x.ride(0, 2, 6, 1);
        check.same("another one in the same area", x.vanOf(3, 6), 98);
        x.ride(0, 5, 7, 1);
        check.same("a shared one", x.vanOf(3, 6), 98);
        x.van(3, 0, 12);
        check.same("all are stranded", x.vanOf(3, 6), NONE);
        check.same("of a van with riders of door 0 in area 0", Texts.airport("0a0").vanOf(0, 6), 70);
    }

    private static void vanFares(Check check) {
        ShuttleDoors x = oneVan(3, 60, 12);
        check.same("none", x.vanOf(3, 7), 0);
        for (int rider = 0; rider < 7; rider++) {
            x.ride(0, 2, rider, 1);
            check.same("all of COST, and of DOOR for each stop", x.vanOf(3, 7), 60 + 6 * (rider + 1));
        }
        x.set(ShuttleDoors.COST, 300);
        x.set(ShuttleDoors.DOOR, 40);
        check.same("as much as they are", x.vanOf(3, 7), 300 + 7 * 40);
        x.set(ShuttleDoors.COST, 0);
        x.set(ShuttleDoors.DOOR, 0);
        check.same("nothing", x.vanOf(3, 7), 0);
        ShuttleDoors y = Texts.airport("0a0,0a0x4,0b0x4,1a0");
        check.same("of its riders alone", y.vanOf(0, 7), 66);
    }

    private static void vanNoSuch(Check check) {
        ShuttleDoors x = Texts.airport("0a0");
        check.same("van -1", x.vanOf(-1, 0), -101);
        check.same("van 8", x.vanOf(8, 0), -101);
        check.same("van 8, and what is out of range", x.vanOf(8, -1), -101);
        check.same("van 0", x.vanOf(0, 0), 60);
        check.same("van 7", x.vanOf(7, 0), 480);
        for (int van : FAR) {
            check.same("van " + van, x.vanOf(van, 0), -101);
        }
    }

    private static void vanOutOfRange(Check check) {
        ShuttleDoors x = Texts.airport("0a0");
        for (int van = 0; van < 8; van++) {
            check.same("what -1", x.vanOf(van, -1), -102);
            check.same("what 8", x.vanOf(van, 8), -102);
            check.holds("what 7", x.vanOf(van, 7) >= 0);
            for (int what : FAR) {
                check.same("what " + what, x.vanOf(van, what), -102);
            }
        }
    }

    // ---- flight

    private static void flight(Check check) {
        ShuttleDoors x = Texts.airport("2a0x4,2a0x3,3a0x2,2a0x1");
        x.delay(2, -10);
        answers(check, "flight 2", x, (y, what) -> y.flight(2, what), 120, -10, 140, 8, 3);
        answers(check, "flight 3", x, (y, what) -> y.flight(3, what), 180, 0, 210, 2, 0);
        answers(check, "flight 5", x, (y, what) -> y.flight(5, what), 300, 0, 330, 0, 0);
    }

    private static void flightItself(Check check) {
        ShuttleDoors x = new ShuttleDoors();
        for (int flight = 0; flight < 6; flight++) {
            check.same("lands at first, " + flight, x.flight(flight, 0), 60 * flight);
            check.same("delay at first, " + flight, x.flight(flight, 1), 0);
            x.delay(flight, 300);
            check.same("without its delay, " + flight, x.flight(flight, 0), 60 * flight);
            check.same("delay, " + flight, x.flight(flight, 1), 300);
            x.land(flight, 1200);
            check.same("the latest, " + flight, x.flight(flight, 0), 1200);
            x.delay(flight, -30);
            check.same("the least, " + flight, x.flight(flight, 1), -30);
        }
    }

    private static void flightReady(Check check) {
        ShuttleDoors x = new ShuttleDoors();
        for (int flight = 0; flight < 6; flight++) {
            check.same("at first, " + flight, x.flight(flight, 2), 60 * flight + 30);
        }
        x.land(5, 1200);
        x.delay(5, 300);
        x.set(ShuttleDoors.BAGS, 90);
        check.same("the latest", x.flight(5, 2), 1590);
        x.delay(0, -30);
        x.set(ShuttleDoors.BAGS, 0);
        check.same("the earliest", x.flight(0, 2), -30);
    }

    private static void flightPeople(Check check) {
        ShuttleDoors x = new ShuttleDoors();
        for (int rider = 0; rider < 24; rider++) {
            check.same("ahead of rider " + rider, x.flight(4, 3), 4 * rider);
            x.ride(4, 0, 0, 4);
        }
        check.same("the most, also those who are stranded", x.flight(4, 3), 96);
        check.same("those of another flight", x.flight(5, 3), 0);
        x.rebook(0, 5);
        check.same("one less", x.flight(4, 3), 92);
        check.same("one more", x.flight(5, 3), 4);
        x.cancel(0);
        check.same("none", x.flight(5, 3), 0);
    }

    private static void flightStranded(Check check) {
        ShuttleDoors x = Texts.airport("0a0x4,0a0x3,1a0x4,1a0x2,1a0x2,0a0x1");
        check.same("of the first", x.flight(0, 4), 3);
        check.same("of the next", x.flight(1, 4), 2);
        check.same("of one without riders", x.flight(2, 4), 0);
        x.van(0, 60, 12);
        check.same("none", x.flight(0, 4), 0);
        x.van(0, 60, 0);
        check.same("all", x.flight(0, 4), 8);
        check.same("the next is as before", x.flight(1, 4), 2);
    }

    private static void flightNoSuch(Check check) {
        ShuttleDoors x = Texts.airport("0a0");
        check.same("flight -1", x.flight(-1, 0), -101);
        check.same("flight 6", x.flight(6, 0), -101);
        check.same("flight 6, and what is out of range", x.flight(6, 5), -101);
        check.same("flight 0", x.flight(0, 0), 0);
        check.same("flight 5", x.flight(5, 0), 300);
        for (int flight : FAR) {
            check.same("flight " + flight, x.flight(flight, 0), -101);
        }
    }

    private static void flightOutOfRange(Check check) {
        ShuttleDoors x = Texts.airport("0a0");
        for (int flight = 0; flight < 6; flight++) {
            check.same("what -1", x.flight(flight, -1), -102);
            check.same("what 5", x.flight(flight, 5), -102);
            check.same("what 4", x.flight(flight, 4), 0);
            for (int what : FAR) {
                check.same("what " + what, x.flight(flight, what), -102);
            }
        }
    }

    // ---- stop

    private static void stop(Check check) {
        ShuttleDoors x = Texts.airport("0f1,0c50,0c9,0c50,0d0,0c0");
        int[][] due = {{2, 0, 80, 1}, {2, 9, 83, 1}, {2, 50, 86, 2}, {3, 0, 91, 1}, {5, 1, 101, 1}};
        for (int place = 0; place < due.length; place++) {
            int at = place;
            answers(check, "place " + place, x, (y, what) -> y.stop(0, at, what), due[place]);
        }
        check.same("no more", x.stop(0, 5, 0), -101);
    }

    private static void firstPlace(Check check) {
        ShuttleDoors x = Texts.airport("0f1,0c50,7a0,0c9");
        check.same("nobody came", x.stop(0, 0, 0), -101);
        ShuttleDoors y = Texts.airport("0f1,0c50,0c9");
        check.same("the lowest area", y.stop(0, 0, 0), 2);
        check.same("the lowest door", y.stop(0, 0, 1), 9);
        check.same("10 and 10 minutes behind leaving", y.stop(0, 0, 2), 80);
        check.same("ahead of it is none", y.stop(0, -1, 0), -101);
        check.same("the last one", y.stop(0, 2, 0), 5);
    }

    private static void stopItself(Check check) {
        for (int area = 0; area < 6; area++) {
            for (int door : new int[] {0, 1, 9, 10, 98, 99}) {
                ShuttleDoors x = new ShuttleDoors();
                x.ride(0, area, door, 1);
                check.same("area", x.stop(0, 0, 0), area);
                check.same("door", x.stop(0, 0, 1), door);
            }
        }
    }

    private static void stopMinute(Check check) {
        ShuttleDoors x = oneVan(7, 60, 12);
        x.ride(0, 1, 0, 1);
        x.ride(0, 1, 99, 1);
        x.ride(0, 5, 0, 1);
        x.ride(0, 5, 99, 1);
        x.ride(0, 2, 0, 1);
        int[] due = {75, 78, 83, 98, 101};
        for (int place = 0; place < due.length; place++) {
            check.same("place " + place, x.stop(7, place, 2), due[place]);
        }
        x.van(7, 30, 12);
        for (int place = 0; place < due.length; place++) {
            check.same("leaving earlier, place " + place, x.stop(7, place, 2), due[place] - 30);
        }
    }

    private static void stopPeople(Check check) {
        ShuttleDoors x = oneVan(2, 60, 12);
        x.ride(0, 0, 0, 4);
        check.same("one rider", x.stop(2, 0, 3), 4);
        x.ride(0, 0, 1, 1);
        check.same("another door", x.stop(2, 0, 3), 4);
        x.ride(0, 0, 0, 4);
        check.same("two riders", x.stop(2, 0, 3), 8);
        x.ride(0, 0, 0, 4);
        check.same("one who is stranded", x.stop(2, 0, 3), 8);
        x.ride(0, 0, 0, 3);
        check.same("three riders", x.stop(2, 0, 3), 11);
        check.same("the other door", x.stop(2, 1, 3), 1);
        x.cancel(1);
        x.van(2, 60, 11);
        check.same("the most but one", x.stop(2, 0, 3), 11);
        x.van(2, 60, 12);
        check.same("the most", x.stop(2, 0, 3), 12);
    }

    private static void stopNoSuch(Check check) {
        ShuttleDoors x = Texts.airport("0a0,0a1,0b0");
        check.same("van -1", x.stop(-1, 0, 0), -101);
        check.same("van 8", x.stop(8, 0, 0), -101);
        check.same("place -1", x.stop(0, -1, 0), -101);
        check.same("place 2", x.stop(0, 2, 0), 1);
        check.same("place 3", x.stop(0, 3, 0), -101);
        check.same("place 3, and what is out of range", x.stop(0, 3, 4), -101);
        check.same("a van without riders", x.stop(1, 0, 0), -101);
        for (int far : FAR) {
            check.same("van " + far, x.stop(far, 0, 0), -101);
            check.same("place " + far, x.stop(0, far, 0), -101);
        }
        ShuttleDoors y = oneVan(7, 60, 12);
        for (int rider = 0; rider < 13; rider++) {
            check.same("place " + rider + " is not there yet", y.stop(7, rider, 1), -101);
            y.ride(0, 0, rider, 1);
            check.same("place " + rider, y.stop(7, rider, 1), rider < 12 ? rider : -101);
        }
    }

    private static void stopOutOfRange(Check check) {
        ShuttleDoors x = Texts.airport("0a0,0a1,0b0");
        for (int place = 0; place < 3; place++) {
            check.same("what -1", x.stop(0, place, -1), -102);
            check.same("what 4", x.stop(0, place, 4), -102);
            check.same("what 3", x.stop(0, place, 3), 1);
            for (int what : FAR) {
                check.same("what " + what, x.stop(0, place, what), -102);
            }
        }
    }

    // ---- count

    private static void count(Check check) {
        ShuttleDoors x = Texts.airport("0a1x2,0a1,1f2x4,0a0x4");
        x.set(0, 29);
        Texts.put(x, "abc");
        // Ready at 29, 29, 89, 29; vans 0, 0, 1 and none; 31 minutes each.
        answers(check, "count", x, ShuttleDoors::count, 29, 60, 3, 60, 6, 4, 11, 1, 4, 7 * 31, 60 + 6 + 60 + 6, 2, 2, 155, 3, 2);
    }

    private static void countSettings(Check check) {
        ShuttleDoors x = new ShuttleDoors();
        int[] first = {30, 60, 3, 60, 6};
        for (int setting = 0; setting < 5; setting++) {
            check.same("at first, " + setting, x.count(setting), first[setting]);
            x.set(setting, setting + 2);
        }
        for (int setting = 0; setting < 5; setting++) {
            check.same("changed, " + setting, x.count(setting), setting + 2);
        }
    }

    private static void countRiders(Check check) {
        ShuttleDoors x = new ShuttleDoors();
        for (int rider = 0; rider < 24; rider++) {
            check.same("riders", x.count(5), rider);
            check.same("people", x.count(6), 4 * rider);
            x.ride(0, 0, 0, 4);
        }
        check.same("the most riders", x.count(5), 24);
        check.same("the most people", x.count(6), 96);
        x.cancel(23);
        check.same("one less", x.count(5), 23);
        check.same("four less", x.count(6), 92);
    }

    private static void countStranded(Check check) {
        ShuttleDoors x = oneVan(4, 60, 12);
        check.same("riders", x.count(7), 0);
        check.same("people", x.count(8), 0);
        for (int rider = 0; rider < 24; rider++) {
            x.ride(0, 0, 0, 3);
            check.same("riders", x.count(7), Math.max(rider - 3, 0));
            check.same("people", x.count(8), 3 * Math.max(rider - 3, 0));
        }
        x.van(4, 29, 12);
        check.same("all", x.count(7), 24);
        check.same("all of their people", x.count(8), 72);
    }

    private static void countWaiting(Check check) {
        ShuttleDoors x = oneVan(0, 60, 12);
        check.same("without riders", x.count(9), 0);
        x.ride(0, 0, 0, 3);
        check.same("of each of the people", x.count(9), 90);
        x.ride(1, 0, 0, 4);
        check.same("stranded ones do not count", x.count(9), 90);
        x.van(5, 100, 12);
        check.same("of all vans", x.count(9), 130);
        x.van(0, 30, 12);
        x.van(5, 90, 12);
        check.same("at once", x.count(9), 0);
        ShuttleDoors y = oneVan(0, 240, 12);
        y.van(1, 240, 12);
        y.set(ShuttleDoors.PATIENCE, 240);
        y.set(ShuttleDoors.BAGS, 0);
        for (int rider = 0; rider < 6; rider++) {
            y.ride(0, 0, 0, 4);
        }
        check.same("two full vans", y.count(9), 24 * 240);
    }

    private static void countFares(Check check) {
        ShuttleDoors x = Texts.airport("0a0,0a1,1a0");
        check.same("of two vans and three stops", x.count(10), 2 * 60 + 3 * 6);
        x.set(ShuttleDoors.COST, 61);
        check.same("what is left over, too", x.count(10), 2 * 61 + 3 * 6);
        x.ride(0, 0, 0, 4);
        check.same("at a stop that is shared", x.count(10), 2 * 61 + 3 * 6);
        x.ride(0, 0, 9, 4);
        check.same("a stranded one pays nothing", x.count(10), 2 * 61 + 3 * 6);
        check.same("without riders", new ShuttleDoors().count(10), 0);
    }

    private static void countVans(Check check) {
        ShuttleDoors x = new ShuttleDoors();
        check.same("without riders", x.count(11), 0);
        for (int flight = 0; flight < 6; flight++) {
            x.ride(flight, 0, 0, 1);
            check.same("one more", x.count(11), flight + 1);
            x.ride(flight, 0, 0, 1);
            check.same("in the same", x.count(11), flight + 1);
        }
        x.van(6, 40, 1);
        check.same("two vans for a flight", x.count(11), 7);
        x.van(7, 41, 1);
        check.same("its two riders are in these", x.count(11), 7);
        x.ride(0, 0, 0, 1);
        check.same("all", x.count(11), 8);
        x.van(6, 40, 0);
        check.same("one less", x.count(11), 7);
    }

    private static void countStops(Check check) {
        ShuttleDoors x = Texts.airport("0a0,0a0,0a1,1a0,2f99");
        check.same("of three vans", x.count(12), 4);
        x.ride(0, 0, 1, 1);
        check.same("at a stop that is there", x.count(12), 4);
        x.ride(5, 0, 1, 1);
        check.same("in another van", x.count(12), 5);
        x.ride(0, 0, 7, 4);
        check.same("stranded", x.count(12), 5);
        check.same("without riders", new ShuttleDoors().count(12), 0);
        ShuttleDoors y = oneVan(0, 60, 12);
        y.van(7, 60, 12);
        for (int rider = 0; rider < 24; rider++) {
            y.ride(0, 0, rider, 1);
        }
        check.same("the most", y.count(12), 24);
    }

    private static void countLast(Check check) {
        ShuttleDoors x = new ShuttleDoors();
        check.same("without one", x.count(13), NONE);
        x.ride(0, 0, 0, 1);
        check.same("one", x.count(13), 70);
        x.ride(0, 0, 1, 1);
        check.same("the last of its van", x.count(13), 73);
        x.ride(1, 0, 0, 1);
        check.same("of the last van", x.count(13), 130);
        x.van(0, 120, 12);
        x.van(1, 90, 2);
        check.same("not of the greatest van", x.count(13), 130);
        x.van(0, 29, 0);
        x.van(1, 29, 0);
        x.set(ShuttleDoors.PATIENCE, 0);
        check.same("all are stranded", x.count(13), NONE);
        ShuttleDoors y = Texts.airport("0a0");
        y.land(0, 0);
        y.delay(0, -30);
        y.van(0, 0, 6);
        check.same("the earliest there is", y.count(13), 10);
        ShuttleDoors z = Texts.airport("0f99,1a0");
        z.van(1, 119, 0);
        z.van(2, 84, 0);
        check.same("a stranded one is not the last", z.count(13), 95);
        z.van(2, 90, 6);
        z.van(0, 89, 6);
        check.same("who leaves later is not the last", z.count(13), 124);
    }

    private static void countPad(Check check) {
        ShuttleDoors x = new ShuttleDoors();
        for (int length = 0; length <= 60; length++) {
            check.same("length " + length, x.count(14), length);
            x.put('z');
        }
        check.same("one too many", x.count(14), 60);
        x.wipe();
        check.same("empty", x.count(14), 0);
    }

    private static void countChanges(Check check) {
        ShuttleDoors x = new ShuttleDoors();
        for (int changes = 0; changes <= 8; changes++) {
            check.same("changes", x.count(15), Math.min(changes, 6));
            x.set(0, 30);
        }
        for (int left = 5; left >= 0; left--) {
            x.undo();
            check.same("left", x.count(15), left);
        }
        x.undo();
        check.same("none is left", x.count(15), 0);
    }

    private static void countOutOfRange(Check check) {
        for (ShuttleDoors x : List.of(new ShuttleDoors(), Texts.airport("0a0"))) {
            check.same("what -1", x.count(-1), -102);
            check.same("what 16", x.count(16), -102);
            check.same("what 0", x.count(0), 30);
            check.holds("what 15", x.count(15) >= 0);
            for (int what : FAR) {
                check.same("what " + what, x.count(what), -102);
            }
        }
    }

    // ---- kerb

    private static void kerbs(Check check, String name, ShuttleDoors x, int[]... due) {
        for (int[] row : due) {
            check.same(name + ", kerb(" + row[0] + ")", x.kerb(row[0]), row[1]);
        }
    }

    private static int[] at(int minute, int people) {
        return new int[] {minute, people};
    }

    private static void kerbOfRiders(Check check) {
        ShuttleDoors x = Texts.airport("0a0x3,1a0x2");
        kerbs(check, "two vans", x, at(0, 0), at(29, 0), at(30, 3), at(59, 3), at(60, 0), at(89, 0), at(90, 2), at(119, 2), at(120, 0));
        x.van(0, 30, 6);
        kerbs(check, "who goes at once is not there", x, at(29, 0), at(30, 0), at(31, 0));
        x.van(0, 90, 6);
        kerbs(check, "one comes when the other one leaves", x, at(30, 3), at(89, 3), at(90, 0));
        x.van(0, 90, 3);
        kerbs(check, "likewise, in two vans", x, at(89, 3), at(90, 2));
        ShuttleDoors y = Texts.airport("0a0");
        y.van(0, 0, 6);
        y.delay(0, -30);
        y.set(ShuttleDoors.BAGS, 0);
        kerbs(check, "ready ahead of minute 0", y, at(0, 0));
        y.van(0, 1, 6);
        kerbs(check, "a minute later", y, at(0, 1), at(1, 0));
    }

    private static void kerbOfStranded(Check check) {
        ShuttleDoors x = oneVan(0, 60, 0);
        x.ride(0, 0, 0, 3);
        kerbs(check, "60 minutes", x, at(29, 0), at(30, 3), at(89, 3), at(90, 3), at(91, 0));
        x.set(ShuttleDoors.PATIENCE, 0);
        kerbs(check, "none", x, at(29, 0), at(30, 3), at(31, 0));
        x.set(ShuttleDoors.PATIENCE, 240);
        kerbs(check, "240 minutes", x, at(29, 0), at(30, 3), at(270, 3), at(271, 0));
        x.set(ShuttleDoors.BAGS, 0);
        x.delay(0, -30);
        x.set(ShuttleDoors.PATIENCE, 30);
        kerbs(check, "ready 30 minutes ahead of minute 0", x, at(0, 3), at(1, 0));
        x.set(ShuttleDoors.PATIENCE, 29);
        kerbs(check, "gone ahead of minute 0", x, at(0, 0));
        x.set(ShuttleDoors.PATIENCE, 240);
        x.set(ShuttleDoors.BAGS, 90);
        x.land(0, 1200);
        x.delay(0, 300);
        kerbs(check, "the latest", x, at(1589, 0), at(1590, 3), at(1830, 3), at(1831, 0));
    }

    private static void kerbMinutes(Check check) {
        ShuttleDoors x = Texts.airport("0a0");
        x.delay(0, -30);
        check.same("0", x.kerb(0), 1);
        check.same("3000", x.kerb(3000), 0);
        check.same("-1", x.kerb(-1), -102);
        check.same("3001", x.kerb(3001), -102);
        int people = 0;
        ShuttleDoors y = oneVan(0, 60, 0);
        y.ride(0, 0, 0, 4);
        for (int minute = 0; minute <= 400; minute++) {
            people += y.kerb(minute);
        }
        check.same("61 minutes in all", people, 61 * 4);
    }

    private static void kerbPeople(Check check) {
        ShuttleDoors x = new ShuttleDoors();
        for (int rider = 0; rider < 24; rider++) {
            check.same("ahead of rider " + rider, x.kerb(30), 4 * rider);
            x.ride(0, 0, 0, 4);
        }
        check.same("the most, with a van and without", x.kerb(30), 96);
        check.same("without those who left", x.kerb(60), 92);
        x.rebook(23, 5);
        check.same("another flight", x.kerb(30), 92);
        x.cancel(0);
        check.same("one has cancelled", x.kerb(30), 88);
    }

    private static void kerbOutOfRange(Check check) {
        for (ShuttleDoors x : List.of(new ShuttleDoors(), Texts.airport("0a0"))) {
            check.same("minute -1", x.kerb(-1), -102);
            check.same("minute 3001", x.kerb(3001), -102);
            check.same("minute 0", x.kerb(0), 0);
            check.same("minute 3000", x.kerb(3000), 0);
            for (int minute : FAR) {
                check.same("minute " + minute, x.kerb(minute), -102);
            }
        }
    }
}
