import java.util.List;

/** Promises 16 to 19: ifDelayed, mostDelay, bestMinute, fullest. */
final class WhatIfSentences {
    private static final int NONE = -106;
    private static final int[] FAR = {Integer.MIN_VALUE, Integer.MIN_VALUE + 1, -1000000, 1000000, Integer.MAX_VALUE};

    private WhatIfSentences() {
    }

    static List<Sentence> all() {
        String ifDelayed = "Promise 16: ifDelayed";
        String mostDelay = "Promise 17: mostDelay";
        String bestMinute = "Promise 18: bestMinute";
        String fullest = "Promise 19: fullest";
        return List.of(
            new Sentence(ifDelayed, "`int ifDelayed(int flight, int minutes, int what)`: Tells what another delay of a flight would bring.",
                WhatIfSentences::ifDelayed),
            new Sentence(ifDelayed, "- `minutes`: -30 to 300", WhatIfSentences::minutes),
            new Sentence(ifDelayed, "- `what`: 0 people who would be stranded,", WhatIfSentences::wouldBeStranded),
            new Sentence(ifDelayed, "1 minutes that all people would wait, together,", WhatIfSentences::wouldWait),
            new Sentence(ifDelayed, "2 the minute at which the last rider would be at its door (NONE without one)",
                WhatIfSentences::lastWouldBe),
            new Sentence(ifDelayed, "Returns the number; NO_SUCH if there is no such flight;", WhatIfSentences::ifDelayedNoSuch),
            new Sentence(ifDelayed, "BAD_VALUE if another argument is out of range.", WhatIfSentences::ifDelayedOutOfRange),
            new Sentence(mostDelay, "`int mostDelay(int flight)`: Finds the greatest delay of a flight, -30 to 300,",
                WhatIfSentences::mostDelay),
            new Sentence(mostDelay, "with which no more people are stranded than now.", WhatIfSentences::noMoreStranded),
            new Sentence(mostDelay, "Returns the delay; NO_SUCH if there is no such flight.", WhatIfSentences::mostDelayNoSuch),
            new Sentence(bestMinute, "`int bestMinute(int van)`: Finds the minute at which a van would leave best, "
                + "of 0, 5, 10 and so on to 1500:", WhatIfSentences::bestMinute),
            new Sentence(bestMinute, "with the fewest people stranded;", WhatIfSentences::fewestStranded),
            new Sentence(bestMinute, "of several the one with the fewest minutes of waiting,", WhatIfSentences::fewestMinutes),
            new Sentence(bestMinute, "of these the least.", WhatIfSentences::leastMinute),
            new Sentence(bestMinute, "Returns the minute; NO_SUCH if there is no such van.", WhatIfSentences::bestMinuteNoSuch),
            new Sentence(fullest, "`int fullest()`: Finds the van with the most people;", WhatIfSentences::fullest),
            new Sentence(fullest, "of several the lowest.", WhatIfSentences::lowestOfSeveral),
            new Sentence(fullest, "Returns the van; NONE if no van has riders.", WhatIfSentences::noneHasRiders));
    }

    /** A new object in which no van but one has seats. */
    private static ShuttleDoors oneVan(int van, int minute, int seats) {
        ShuttleDoors x = new ShuttleDoors();
        for (int other = 0; other < 8; other++) {
            x.van(other, 60 * other + 60, 0);
        }
        x.van(van, minute, seats);
        return x;
    }

    // ---- ifDelayed

    /** What it tells is what the delay brings, and the delay is not made. */
    private static void ifDelayed(Check check) {
        for (int minutes : new int[] {-30, -29, -1, 0, 1, 30, 31, 90, 91, 150, 299, 300}) {
            ShuttleDoors x = Texts.airport("0a0x4,0b1x3,1c2x4,1f9x2,2a0");
            int stranded = x.ifDelayed(1, minutes, 0);
            int waiting = x.ifDelayed(1, minutes, 1);
            int last = x.ifDelayed(1, minutes, 2);
            check.same("it is not delayed yet", x.flight(1, 1), 0);
            x.delay(1, minutes);
            check.same(minutes + " late, stranded", stranded, x.count(8));
            check.same(minutes + " late, waiting", waiting, x.count(9));
            check.same(minutes + " late, last", last, x.count(13));
        }
        ShuttleDoors y = oneVan(0, 60, 6);
        y.ride(0, 0, 0, 1);
        y.delay(0, 30);
        check.same("it is another delay, not one more", y.ifDelayed(0, 1, 0), 0);
        check.same("it goes instead", y.ifDelayed(0, 31, 0), 1);
        check.same("of another flight", y.ifDelayed(1, 300, 0), 0);
        check.same("without riders", new ShuttleDoors().ifDelayed(0, 0, 0), 0);
    }

    private static void minutes(Check check) {
        ShuttleDoors x = oneVan(0, 0, 6);
        x.ride(0, 0, 0, 2);
        check.same("-30", x.ifDelayed(0, -30, 0), 0);
        check.same("-29", x.ifDelayed(0, -29, 0), 2);
        x.van(0, 330, 6);
        x.set(ShuttleDoors.PATIENCE, 0);
        check.same("300", x.ifDelayed(0, 300, 0), 0);
        check.same("299", x.ifDelayed(0, 299, 0), 2);
        check.same("-31", x.ifDelayed(0, -31, 0), -102);
        check.same("301", x.ifDelayed(0, 301, 0), -102);
    }

    private static void wouldBeStranded(Check check) {
        ShuttleDoors x = oneVan(0, 60, 12);
        check.same("nobody is there", x.ifDelayed(0, 300, 0), 0);
        x.ride(0, 0, 0, 4);
        x.ride(0, 0, 0, 3);
        x.ride(1, 0, 0, 2);
        check.same("people of the other flight", x.ifDelayed(0, 30, 0), 2);
        check.same("people, not riders, of all", x.ifDelayed(0, 31, 0), 9);
        check.same("as it is", x.ifDelayed(0, 0, 0), 2);
        check.same("none", x.ifDelayed(1, -30, 0), 0);
        check.same("of each rider", x.ifDelayed(1, -29, 0), 2);
        ShuttleDoors y = oneVan(0, 60, 0);
        for (int rider = 0; rider < 24; rider++) {
            y.ride(0, 0, 0, 4);
        }
        check.same("the most", y.ifDelayed(0, 300, 0), 96);
    }

    private static void wouldWait(Check check) {
        ShuttleDoors x = oneVan(0, 60, 12);
        check.same("nobody is there", x.ifDelayed(0, 0, 1), 0);
        x.ride(0, 0, 0, 4);
        x.ride(1, 0, 0, 3);
        check.same("a stranded one does not wait", x.ifDelayed(0, 0, 1), 4 * 30);
        check.same("not at all", x.ifDelayed(0, 30, 1), 0);
        check.same("the longest", x.ifDelayed(0, -30, 1), 4 * 60);
        check.same("all are stranded", x.ifDelayed(0, 31, 1), 0);
        check.same("both", x.ifDelayed(1, -30, 1), 4 * 30);
        check.same("both, and the other one waits, too", x.ifDelayed(1, -30, 1) + x.ifDelayed(1, -29, 1), 2 * 4 * 30);
        x.set(ShuttleDoors.BAGS, 20);
        check.same("of both together", x.ifDelayed(1, -30, 1), 4 * 40 + 3 * 10);
    }

    private static void lastWouldBe(Check check) {
        ShuttleDoors x = oneVan(0, 60, 12);
        check.same("nobody is there", x.ifDelayed(0, 0, 2), NONE);
        x.ride(0, 0, 0, 1);
        x.ride(1, 5, 99, 1);
        check.same("a stranded one is not the last", x.ifDelayed(0, 0, 2), 70);
        check.same("both", x.ifDelayed(1, -30, 2), 95);
        check.same("all are stranded", x.ifDelayed(0, 31, 2), NONE);
        x.van(7, 100, 12);
        check.same("in two vans", x.ifDelayed(0, 0, 2), 135);
        check.same("in the last one", x.ifDelayed(1, 11, 2), 70);
        check.same("both in it", x.ifDelayed(0, 40, 2), 135);
        check.same("as it is, it has not changed", x.count(13), 135);
        ShuttleDoors y = oneVan(0, 0, 1);
        y.ride(0, 0, 0, 1);
        check.same("the earliest there is", y.ifDelayed(0, -30, 2), 10);
    }

    private static void ifDelayedNoSuch(Check check) {
        ShuttleDoors x = Texts.airport("0a0,5a0");
        check.same("flight -1", x.ifDelayed(-1, 0, 0), -101);
        check.same("flight 6", x.ifDelayed(6, 0, 0), -101);
        check.same("flight 6, and minutes out of range", x.ifDelayed(6, 301, 0), -101);
        check.same("flight 6, and what is out of range", x.ifDelayed(6, 0, 3), -101);
        check.same("flight 0", x.ifDelayed(0, 0, 0), 0);
        check.same("flight 5", x.ifDelayed(5, 0, 0), 0);
        for (int flight : FAR) {
            check.same("flight " + flight, x.ifDelayed(flight, 0, 0), -101);
        }
    }

    private static void ifDelayedOutOfRange(Check check) {
        for (ShuttleDoors x : List.of(new ShuttleDoors(), Texts.airport("0a0,5a0"))) {
            for (int flight : new int[] {0, 5}) {
                for (int what = 0; what < 3; what++) {
                    check.same("minutes -31", x.ifDelayed(flight, -31, what), -102);
                    check.same("minutes 301", x.ifDelayed(flight, 301, what), -102);
                }
                check.same("what -1", x.ifDelayed(flight, 0, -1), -102);
                check.same("what 3", x.ifDelayed(flight, 0, 3), -102);
                check.same("both", x.ifDelayed(flight, 301, 3), -102);
            }
            for (int far : FAR) {
                check.same("minutes " + far, x.ifDelayed(0, far, 0), -102);
                check.same("what " + far, x.ifDelayed(0, 0, far), -102);
            }
        }
    }

    // ---- mostDelay

    private static void mostDelay(Check check) {
        for (int due = -30; due <= 300; due += 15) {
            ShuttleDoors x = oneVan(0, 30 + due, 6);
            x.delay(0, -30);
            x.set(ShuttleDoors.PATIENCE, 240);
            x.ride(0, 0, 0, 4);
            boolean stranded = x.count(8) > 0;
            check.same("until the van leaves, at " + (30 + due), x.mostDelay(0), stranded ? 300 : due);
        }
        ShuttleDoors x = oneVan(0, 330, 6);
        x.set(ShuttleDoors.PATIENCE, 240);
        x.delay(0, 100);
        x.ride(0, 0, 0, 4);
        check.same("300, to the minute", x.mostDelay(0), 300);
        x.van(0, 329, 6);
        check.same("299", x.mostDelay(0), 299);
        x.van(0, 331, 6);
        check.same("no more than 300", x.mostDelay(0), 300);
        x.delay(0, -30);
        x.van(0, 1, 6);
        check.same("-29", x.mostDelay(0), -29);
        x.van(0, 0, 6);
        check.same("-30", x.mostDelay(0), -30);
        check.same("of a flight without riders", x.mostDelay(5), 300);
        check.same("without riders at all", new ShuttleDoors().mostDelay(0), 300);
    }

    private static void noMoreStranded(Check check) {
        ShuttleDoors x = oneVan(0, 60, 6);
        x.ride(0, 0, 0, 4);
        check.same("none", x.mostDelay(0), 30);
        x.ride(0, 0, 0, 4);
        check.same("as many as now", x.mostDelay(0), 30);
        x.ride(1, 0, 0, 2);
        check.same("of another flight", x.mostDelay(0), 30);
        x.delay(0, 31);
        check.same("all are stranded now", x.mostDelay(0), 300);
        x.delay(0, 300);
        check.same("likewise, with the greatest one", x.mostDelay(0), 300);
        ShuttleDoors y = oneVan(0, 60, 6);
        y.ride(0, 0, 0, 4);
        y.van(1, 200, 6);
        check.same("a greater one with which there is a van again", y.mostDelay(0), 170);
        y.ride(1, 0, 0, 4);
        y.land(1, 130);
        // The other flight is ready at 160; one of them is stranded if both want van 1.
        check.same("as long as the other one keeps its van", y.mostDelay(0), 30);
        y.van(1, 200, 7);
        check.same("that are people, not riders", y.mostDelay(0), 30);
        y.van(1, 200, 8);
        check.same("for both", y.mostDelay(0), 170);
        ShuttleDoors z = oneVan(0, 60, 4);
        z.ride(0, 0, 0, 1);
        z.ride(1, 0, 0, 4);
        z.land(1, 0);
        check.same("stranded now", z.count(8), 4);
        // From 1 on the 4 go first, and the 1 is stranded: fewer than now; from 31 on it is late anyway.
        check.same("fewer are no more", z.mostDelay(0), 300);
        z.delay(0, 1);
        check.same("stranded then", z.count(8), 1);
        check.same("as many", z.mostDelay(0), 300);
        // Ready at 31 like the 1, which has the lower number, the 4 would be stranded: one rider as now, but more people.
        check.same("people, not riders", z.mostDelay(1), 0);
        z.delay(1, 1);
        check.same("they are stranded then", z.mostDelay(1), 300);
    }

    private static void mostDelayNoSuch(Check check) {
        ShuttleDoors x = Texts.airport("0a0");
        check.same("flight -1", x.mostDelay(-1), -101);
        check.same("flight 6", x.mostDelay(6), -101);
        check.same("flight 0", x.mostDelay(0), 300);
        check.same("flight 5", x.mostDelay(5), 300);
        for (int flight : FAR) {
            check.same("flight " + flight, x.mostDelay(flight), -101);
        }
    }

    // ---- bestMinute

    private static void bestMinute(Check check) {
        for (int ready : new int[] {0, 1, 4, 5, 6, 9, 10, 11, 749, 750, 1200}) {
            ShuttleDoors x = oneVan(3, 0, 1);
            x.ride(0, 0, 0, 1);
            x.set(ShuttleDoors.BAGS, 0);
            x.land(0, ready);
            check.same("ready at " + ready, x.bestMinute(3), (ready + 4) / 5 * 5);
            check.same("the van is as it was", x.vanOf(3, 0), 0);
        }
        for (int ready : new int[] {1470, 1494, 1495, 1496, 1499, 1500, 1501, 1590}) {
            ShuttleDoors x = oneVan(3, 777, 1);
            x.ride(0, 0, 0, 1);
            x.set(ShuttleDoors.BAGS, 90);
            x.land(0, 1200);
            x.delay(0, ready - 1290);
            check.same("ready at " + ready, x.bestMinute(3), ready <= 1500 ? (ready + 4) / 5 * 5 : 0);
        }
        ShuttleDoors y = oneVan(3, 30, 1);
        y.set(ShuttleDoors.PATIENCE, 0);
        y.ride(0, 0, 0, 1);
        check.same("at once", y.bestMinute(3), 30);
        y.set(ShuttleDoors.BAGS, 31);
        check.same("between two of these, so that none is right", y.bestMinute(3), 0);
        check.same("for each van, without riders", new ShuttleDoors().bestMinute(7), 0);
    }

    private static void fewestStranded(Check check) {
        ShuttleDoors x = oneVan(0, 0, 4);
        x.ride(0, 0, 0, 1);
        x.ride(1, 0, 0, 2);
        check.same("both", x.bestMinute(0), 90);
        x.van(0, 0, 2);
        check.same("2 people, not 1", x.bestMinute(0), 95);
        x.set(ShuttleDoors.PATIENCE, 59);
        x.van(0, 0, 4);
        check.same("2 people rather than 1", x.bestMinute(0), 90);
        ShuttleDoors y = oneVan(0, 0, 4);
        y.ride(0, 0, 0, 1);
        y.ride(0, 0, 0, 1);
        y.ride(1, 0, 0, 1);
        y.set(ShuttleDoors.PATIENCE, 10);
        check.same("two riders of one", y.bestMinute(0), 30);
        y.cancel(0);
        y.ride(1, 0, 0, 1);
        check.same("two riders of the other", y.bestMinute(0), 90);
    }

    private static void fewestMinutes(Check check) {
        ShuttleDoors x = oneVan(0, 0, 6);
        x.van(1, 91, 6);
        x.ride(0, 0, 0, 1);
        x.ride(1, 0, 0, 4);
        // Nobody is stranded from 30 to 90: at 30 they wait 0 and 4, at 90 60 and 0.
        check.same("of one", x.bestMinute(0), 30);
        x.van(1, 150, 6);
        // At 30 they wait 0 and 240, at 90 60 and 0.
        check.same("of all people together", x.bestMinute(0), 90);
        x.van(1, 105, 6);
        // At 30 they wait 0 and 60, at 90 60 and 0.
        check.same("as many at both: the least", x.bestMinute(0), 30);
        x.van(1, 106, 6);
        check.same("a few more at one", x.bestMinute(0), 90);
        ShuttleDoors y = oneVan(0, 0, 6);
        y.ride(0, 0, 0, 1);
        y.ride(1, 0, 0, 1);
        y.land(1, 8);
        check.same("at 40 they wait 10 and 2", y.bestMinute(0), 40);
    }

    private static void leastMinute(Check check) {
        check.same("without riders", new ShuttleDoors().bestMinute(0), 0);
        ShuttleDoors x = oneVan(0, 777, 0);
        x.ride(0, 0, 0, 1);
        check.same("without seats", x.bestMinute(0), 0);
        ShuttleDoors y = oneVan(0, 777, 1);
        y.ride(0, 0, 0, 1);
        y.ride(5, 0, 0, 1);
        check.same("of two that are alike", y.bestMinute(0), 30);
        y.set(ShuttleDoors.BAGS, 35);
        check.same("likewise", y.bestMinute(0), 35);
        ShuttleDoors z = Texts.airport("0a0,1a0");
        z.van(0, 30, 6);
        z.van(1, 90, 6);
        check.same("all have a van at once", z.bestMinute(2), 0);
        z.van(2, 777, 6);
        check.same("wherever it is now", z.bestMinute(2), 0);
    }

    private static void bestMinuteNoSuch(Check check) {
        ShuttleDoors x = Texts.airport("0a0");
        check.same("van -1", x.bestMinute(-1), -101);
        check.same("van 8", x.bestMinute(8), -101);
        check.same("van 0", x.bestMinute(0), 30);
        check.same("van 7", x.bestMinute(7), 30);
        for (int van : FAR) {
            check.same("van " + van, x.bestMinute(van), -101);
        }
    }

    // ---- fullest

    private static void fullest(Check check) {
        for (int van = 0; van < 8; van++) {
            ShuttleDoors x = oneVan(van, 60, 12);
            x.ride(0, 0, 0, 1);
            check.same("the only one", x.fullest(), van);
        }
        ShuttleDoors x = Texts.airport("0a0,0a0,0a0,5a0x4");
        check.same("people, not riders", x.fullest(), 5);
        x.ride(3, 0, 0, 3);
        check.same("4 of 3, 3 and 4", x.fullest(), 5);
        x.ride(3, 0, 0, 2);
        check.same("5", x.fullest(), 3);
        x.ride(0, 0, 0, 3);
        check.same("6, without free seats", x.fullest(), 0);
        x.van(5, 360, 12);
        check.same("seats are no people", x.fullest(), 0);
        x.ride(5, 0, 0, 4);
        check.same("8", x.fullest(), 5);
    }

    private static void lowestOfSeveral(Check check) {
        ShuttleDoors x = new ShuttleDoors();
        for (int flight = 5; flight >= 0; flight--) {
            x.ride(flight, 0, 0, 2);
            check.same("the latest to come", x.fullest(), flight);
        }
        for (int flight = 5; flight >= 0; flight--) {
            x.ride(flight, 0, 0, 1);
            check.same("one person more", x.fullest(), flight);
        }
        ShuttleDoors y = oneVan(7, 59, 1);
        y.van(6, 60, 1);
        y.ride(0, 0, 0, 1);
        y.ride(0, 0, 0, 1);
        check.same("of numbers, not of minutes", y.fullest(), 6);
    }

    private static void noneHasRiders(Check check) {
        ShuttleDoors x = new ShuttleDoors();
        check.same("without riders", x.fullest(), NONE);
        x.ride(0, 0, 0, 1);
        check.same("one", x.fullest(), 0);
        x.van(0, 60, 0);
        check.same("stranded", x.fullest(), NONE);
        x.undo();
        check.same("not stranded", x.fullest(), 0);
        x.cancel(0);
        check.same("cancelled", x.fullest(), NONE);
    }
}
