import java.util.List;

/** Promises 1 to 9: a new object, set, land, delay, van, ride, read, cancel, rebook. */
final class ChangeSentences {
    private static final int NONE = -106;
    private static final int[] FAR = {Integer.MIN_VALUE, Integer.MIN_VALUE + 1, -1000000, 1000000, Integer.MAX_VALUE};

    private ChangeSentences() {
    }

    static List<Sentence> all() {
        String created = "Promise 1: A new object";
        String set = "Promise 2: set";
        String land = "Promise 3: land";
        String delay = "Promise 4: delay";
        String van = "Promise 5: van";
        String ride = "Promise 6: ride";
        String read = "Promise 7: read";
        String cancel = "Promise 8: cancel";
        String rebook = "Promise 9: rebook";
        return List.of(
            new Sentence(created, "`ShuttleDoors()`: Creates an airport without riders.", ChangeSentences::withoutRiders),
            new Sentence(set, "`int set(int setting, int value)`: Changes a setting.", ChangeSentences::set),
            new Sentence(set, "This is a change.", ChangeSentences::setIsAChange),
            new Sentence(set, "Returns the previous value;", ChangeSentences::setPrevious),
            new Sentence(set, "BAD_VALUE if there is no such setting,", ChangeSentences::noSuchSetting),
            new Sentence(set, "or value is out of its range.", ChangeSentences::valueOutOfRange),
            new Sentence(land, "`int land(int flight, int minute)`: Changes the minute at which a flight lands.", ChangeSentences::land),
            new Sentence(land, "This is a change.", ChangeSentences::landIsAChange),
            new Sentence(land, "- `minute`: 0 to 1200", ChangeSentences::landEdges),
            new Sentence(land, "Returns the previous one;", ChangeSentences::landPrevious),
            new Sentence(land, "NO_SUCH if there is no such flight;", ChangeSentences::landNoSuch),
            new Sentence(land, "BAD_VALUE if minute is out of range.", ChangeSentences::landOutOfRange),
            new Sentence(delay, "`int delay(int flight, int minutes)`: Changes the delay of a flight.", ChangeSentences::delay),
            new Sentence(delay, "This is a change.", ChangeSentences::delayIsAChange),
            new Sentence(delay, "- `minutes`: -30 to 300", ChangeSentences::delayEdges),
            new Sentence(delay, "Returns the minute at which its riders are ready then;", ChangeSentences::delayReady),
            new Sentence(delay, "NO_SUCH if there is no such flight;", ChangeSentences::delayNoSuch),
            new Sentence(delay, "BAD_VALUE if minutes is out of range.", ChangeSentences::delayOutOfRange),
            new Sentence(van, "`int van(int van, int minute, int seats)`: Changes a van.", ChangeSentences::van),
            new Sentence(van, "This is a change.", ChangeSentences::vanIsAChange),
            new Sentence(van, "- `minute`: 0 to 1500: at which it leaves", ChangeSentences::vanMinutes),
            new Sentence(van, "- `seats`: 0 to 12", ChangeSentences::vanSeats),
            new Sentence(van, "Returns how many people are stranded then;", ChangeSentences::vanStranded),
            new Sentence(van, "NO_SUCH if there is no such van;", ChangeSentences::vanNoSuch),
            new Sentence(van, "BAD_VALUE if another argument is out of range.", ChangeSentences::vanOutOfRange),
            new Sentence(ride, "`int ride(int flight, int area, int door, int people)`: A rider comes.", ChangeSentences::ride),
            new Sentence(ride, "This is a change.", ChangeSentences::rideIsAChange),
            new Sentence(ride, "- `door`: 0 to 99", ChangeSentences::rideDoors),
            new Sentence(ride, "- `people`: 1 to 4", ChangeSentences::ridePeople),
            new Sentence(ride, "Returns its number;", ChangeSentences::rideNumber),
            new Sentence(ride, "NO_SUCH if there is no such flight or area;", ChangeSentences::rideNoSuch),
            new Sentence(ride, "BAD_VALUE if door or people is out of range;", ChangeSentences::rideOutOfRange),
            new Sentence(ride, "TOO_MANY if there are 24.", ChangeSentences::rideTooMany),
            new Sentence(read, "`int read()`: Lets the riders of the pad come, and empties the pad.", ChangeSentences::read),
            new Sentence(read, "This is a change.", ChangeSentences::readIsAChange),
            new Sentence(read, "Returns how many riders there are then;", ChangeSentences::readCount),
            new Sentence(read, "BAD_TEXT if the pad has a fault;", ChangeSentences::readBadText),
            new Sentence(read, "TOO_MANY if there would be more than 24.", ChangeSentences::readTooMany),
            new Sentence(cancel, "`int cancel(int rider)`: A rider cancels; those behind it get numbers that are 1 less.",
                ChangeSentences::cancel),
            new Sentence(cancel, "This is a change.", ChangeSentences::cancelIsAChange),
            new Sentence(cancel, "Returns the fare that it would have paid;", ChangeSentences::cancelFare),
            new Sentence(cancel, "NO_SUCH if there is no such rider.", ChangeSentences::cancelNoSuch),
            new Sentence(rebook, "`int rebook(int rider, int flight)`: Rebooks a rider to another flight.", ChangeSentences::rebook),
            new Sentence(rebook, "This is a change.", ChangeSentences::rebookIsAChange),
            new Sentence(rebook, "Returns the van that it gets then (NONE if it is stranded);", ChangeSentences::rebookVan),
            new Sentence(rebook, "NO_SUCH if there is no such rider or flight;", ChangeSentences::rebookNoSuch),
            new Sentence(rebook, "NOT_POSSIBLE if it is its flight already.", ChangeSentences::rebookNotPossible));
    }

    /** Of nothing yet, of as much as there may be; the call that changes something, and that which changes nothing. */
    private static void isAChange(Check check, String name, Twins.Call call, Twins.Call sameAgain) {
        List<Twins.Calls> states = List.of(Twins::fresh, Twins::lived, Twins::full);
        for (Twins.Calls before : states) {
            Twins.isChange(check, name, before, call, Twins.answer(before, call));
            Twins.isChange(check, name + " that makes no difference", x -> {
                before.on(x);
                call.on(x);
            }, sameAgain, Twins.answer(x -> {
                before.on(x);
                call.on(x);
            }, sameAgain));
        }
    }

    private static void withoutRiders(Check check) {
        ShuttleDoors x = new ShuttleDoors();
        int[] counts = {30, 60, 3, 60, 6, 0, 0, 0, 0, 0, 0, 0, 0, NONE, 0, 0};
        for (int what = 0; what < counts.length; what++) {
            check.same("count(" + what + ")", x.count(what), counts[what]);
        }
        check.same("no rider", x.rider(0, 0), -101);
        for (int van = 0; van < 8; van++) {
            int[] due = {60 * van + 60, 6, 0, 0, 0, 0, NONE, 0};
            for (int what = 0; what < due.length; what++) {
                check.same("vanOf(" + van + ", " + what + ")", x.vanOf(van, what), due[what]);
            }
            check.same("no stop of " + van, x.stop(van, 0, 0), -101);
            check.same("best minute of " + van, x.bestMinute(van), 0);
        }
        for (int flight = 0; flight < 6; flight++) {
            int[] due = {60 * flight, 0, 60 * flight + 30, 0, 0};
            for (int what = 0; what < due.length; what++) {
                check.same("flight(" + flight + ", " + what + ")", x.flight(flight, what), due[what]);
            }
            check.same("most delay of " + flight, x.mostDelay(flight), 300);
            check.same("stranded by a delay of " + flight, x.ifDelayed(flight, 300, 0), 0);
        }
        check.same("fullest", x.fullest(), NONE);
        check.same("kerb", x.kerb(60), 0);
        check.same("fault", x.fault(), 0);
        check.same("wipe", x.wipe(), 0);
        check.same("restore 0", x.restore(0), -105);
        check.same("restore 1", x.restore(1), -105);
        check.same("undo", x.undo(), -105);
        check.same("cancel", x.cancel(0), -101);
        x.ride(0, 0, 0, 1);
        check.same("the next new object is without riders, too", new ShuttleDoors().count(5), 0);
    }

    private static void set(Check check) {
        ShuttleDoors x = Texts.airport("0a0x4,0b0x2,0a0x2");
        for (int setting = 0; setting < 5; setting++) {
            x.set(setting, setting + 1);
            for (int other = 0; other < 5; other++) {
                int[] first = {30, 60, 3, 60, 6};
                check.same("set " + setting + ", count " + other, x.count(other), other <= setting ? other + 1 : first[other]);
            }
        }
        check.same("who gets a van is worked out anew", x.count(8), 8);
        x.set(ShuttleDoors.PATIENCE, 240);
        check.same("and anew", x.count(8), 0);
    }

    private static void setIsAChange(Check check) {
        for (int setting = 0; setting < 5; setting++) {
            int changed = setting;
            isAChange(check, "set " + setting, x -> x.set(changed, 5), x -> x.set(changed, 5));
        }
    }

    private static void setPrevious(Check check) {
        int[] least = {0, 0, 1, 0, 0};
        int[] most = {90, 240, 6, 300, 40};
        int[] first = {30, 60, 3, 60, 6};
        for (int setting = 0; setting < 5; setting++) {
            ShuttleDoors x = new ShuttleDoors();
            check.same("the first, " + setting, x.set(setting, most[setting]), first[setting]);
            check.same("the greatest, " + setting, x.set(setting, least[setting]), most[setting]);
            check.same("the least, " + setting, x.set(setting, least[setting]), least[setting]);
            check.same("an error, " + setting, x.set(setting, most[setting] + 1), -102);
            check.same("is forgotten, " + setting, x.set(setting, first[setting]), least[setting]);
        }
    }

    private static void noSuchSetting(Check check) {
        for (int setting : new int[] {-1, 5, 6, 15, 16, 31, 32, 256}) {
            check.same("setting " + setting, new ShuttleDoors().set(setting, 1), -102);
        }
        for (int setting : FAR) {
            check.same("setting " + setting, new ShuttleDoors().set(setting, 1), -102);
        }
        for (int setting = 0; setting < 5; setting++) {
            check.holds("there is setting " + setting, new ShuttleDoors().set(setting, 1) >= 0);
        }
    }

    private static void valueOutOfRange(Check check) {
        int[] least = {0, 0, 1, 0, 0};
        int[] most = {90, 240, 6, 300, 40};
        for (int setting = 0; setting < 5; setting++) {
            ShuttleDoors x = new ShuttleDoors();
            check.same("below, " + setting, x.set(setting, least[setting] - 1), -102);
            check.same("above, " + setting, x.set(setting, most[setting] + 1), -102);
            for (int value : FAR) {
                check.same("far off, " + setting, x.set(setting, value), -102);
            }
            check.holds("the least, " + setting, x.set(setting, least[setting]) >= 0);
            check.same("the greatest, " + setting, x.set(setting, most[setting]), least[setting]);
        }
    }

    private static void land(Check check) {
        ShuttleDoors x = Texts.airport("3a0,2a0");
        for (int flight = 0; flight < 6; flight++) {
            x.land(flight, 700 + flight);
            for (int other = 0; other < 6; other++) {
                check.same("land " + flight + ", flight " + other, x.flight(other, 0), other <= flight ? 700 + other : 60 * other);
            }
        }
        check.same("its riders are ready later", x.rider(0, 4), 733);
        check.same("and find no van", x.rider(0, 5), NONE);
        x.land(3, 0);
        check.same("and one again", x.rider(0, 5), 0);
        check.same("the others do not", x.rider(1, 5), NONE);
        check.same("the delay stays", x.flight(3, 1), 0);
    }

    private static void landIsAChange(Check check) {
        isAChange(check, "land", x -> x.land(0, 77), x -> x.land(0, 77));
        isAChange(check, "land of the last", x -> x.land(5, 77), x -> x.land(5, 77));
    }

    private static void landEdges(Check check) {
        ShuttleDoors x = Texts.airport("4a0");
        check.same("0", x.land(4, 0), 240);
        check.same("ready", x.rider(0, 4), 30);
        check.same("1200", x.land(4, 1200), 0);
        check.same("ready", x.rider(0, 4), 1230);
        check.same("-1", x.land(4, -1), -102);
        check.same("1201", x.land(4, 1201), -102);
        check.same("still", x.rider(0, 4), 1230);
    }

    private static void landPrevious(Check check) {
        for (int flight = 0; flight < 6; flight++) {
            ShuttleDoors x = new ShuttleDoors();
            x.delay(flight, 17);
            check.same("the first, " + flight, x.land(flight, 1200), 60 * flight);
            check.same("the greatest, " + flight, x.land(flight, 0), 1200);
            check.same("the least, " + flight, x.land(flight, 0), 0);
            check.same("an error, " + flight, x.land(flight, 1201), -102);
            check.same("is forgotten, " + flight, x.land(flight, 5), 0);
        }
    }

    private static void landNoSuch(Check check) {
        check.same("flight -1", new ShuttleDoors().land(-1, 0), -101);
        check.same("flight 6", new ShuttleDoors().land(6, 0), -101);
        check.same("flight 6 and a minute out of range", new ShuttleDoors().land(6, -1), -101);
        check.same("flight 5", new ShuttleDoors().land(5, 0), 300);
        check.same("flight 0", new ShuttleDoors().land(0, 9), 0);
        for (int flight : FAR) {
            check.same("flight " + flight, new ShuttleDoors().land(flight, 0), -101);
        }
    }

    private static void landOutOfRange(Check check) {
        check.same("minute -1", new ShuttleDoors().land(0, -1), -102);
        check.same("minute 1201", new ShuttleDoors().land(0, 1201), -102);
        check.same("minute -1 of the last flight", new ShuttleDoors().land(5, -1), -102);
        for (int minute : FAR) {
            check.same("minute " + minute, new ShuttleDoors().land(0, minute), -102);
        }
    }

    private static void delay(Check check) {
        ShuttleDoors x = Texts.airport("3a0,2a0");
        for (int flight = 0; flight < 6; flight++) {
            x.delay(flight, 200 + flight);
            for (int other = 0; other < 6; other++) {
                check.same("delay " + flight + ", flight " + other, x.flight(other, 1), other <= flight ? 200 + other : 0);
            }
        }
        x.delay(3, 100);
        check.same("it is another one, not one more", x.flight(3, 1), 100);
        check.same("its riders are ready later", x.rider(0, 4), 310);
        check.same("and get another van", x.rider(0, 5), 5);
        x.delay(3, 271);
        check.same("or none", x.rider(0, 5), NONE);
        check.same("the minute at which it lands stays", x.flight(3, 0), 180);
    }

    private static void delayIsAChange(Check check) {
        isAChange(check, "delay", x -> x.delay(0, 77), x -> x.delay(0, 77));
        isAChange(check, "delay of the last", x -> x.delay(5, -3), x -> x.delay(5, -3));
    }

    private static void delayEdges(Check check) {
        ShuttleDoors x = Texts.airport("4a0");
        check.same("-30", x.delay(4, -30), 240);
        check.same("it is told", x.flight(4, 1), -30);
        check.same("300", x.delay(4, 300), 570);
        check.same("it is told", x.flight(4, 1), 300);
        check.same("-31", x.delay(4, -31), -102);
        check.same("301", x.delay(4, 301), -102);
        check.same("still", x.rider(0, 4), 570);
    }

    private static void delayReady(Check check) {
        for (int flight = 0; flight < 6; flight++) {
            ShuttleDoors x = new ShuttleDoors();
            check.same("none, " + flight, x.delay(flight, 0), 60 * flight + 30);
            check.same("the least, " + flight, x.delay(flight, -30), 60 * flight);
            check.same("the greatest, " + flight, x.delay(flight, 300), 60 * flight + 330);
            x.set(ShuttleDoors.BAGS, 90);
            x.land(flight, 1200);
            check.same("the latest, " + flight, x.delay(flight, 300), 1590);
            x.set(ShuttleDoors.BAGS, 0);
            x.land(flight, 0);
            check.same("the earliest, " + flight, x.delay(flight, -30), -30);
            check.same("less than an error is none, " + flight, x.flight(flight, 2), -30);
        }
    }

    private static void delayNoSuch(Check check) {
        check.same("flight -1", new ShuttleDoors().delay(-1, 0), -101);
        check.same("flight 6", new ShuttleDoors().delay(6, 0), -101);
        check.same("flight 6 and minutes out of range", new ShuttleDoors().delay(6, -31), -101);
        check.same("flight 5", new ShuttleDoors().delay(5, 0), 330);
        check.same("flight 0", new ShuttleDoors().delay(0, 0), 30);
        for (int flight : FAR) {
            check.same("flight " + flight, new ShuttleDoors().delay(flight, 0), -101);
        }
    }

    private static void delayOutOfRange(Check check) {
        check.same("minutes -31", new ShuttleDoors().delay(0, -31), -102);
        check.same("minutes 301", new ShuttleDoors().delay(0, 301), -102);
        check.same("minutes 301 of the last flight", new ShuttleDoors().delay(5, 301), -102);
        for (int minutes : FAR) {
            check.same("minutes " + minutes, new ShuttleDoors().delay(0, minutes), -102);
        }
    }

    private static void van(Check check) {
        ShuttleDoors x = new ShuttleDoors();
        for (int van = 0; van < 8; van++) {
            x.van(van, 1000 + van, van + 2);
            for (int other = 0; other < 8; other++) {
                boolean changed = other <= van;
                check.same("van " + van + ", leaves " + other, x.vanOf(other, 0), changed ? 1000 + other : 60 * other + 60);
                check.same("van " + van + ", seats " + other, x.vanOf(other, 1), changed ? other + 2 : 6);
            }
        }
        x.ride(0, 0, 0, 3);
        check.same("no van", x.rider(0, 5), NONE);
        x.van(6, 40, 3);
        check.same("one", x.rider(0, 5), 6);
        x.van(6, 40, 2);
        check.same("none again", x.rider(0, 5), NONE);
    }

    private static void vanIsAChange(Check check) {
        isAChange(check, "van", x -> x.van(0, 77, 5), x -> x.van(0, 77, 5));
        isAChange(check, "van, the last", x -> x.van(7, 60, 12), x -> x.van(7, 60, 12));
        isAChange(check, "van, its minute alone", x -> x.van(0, 40, 6), x -> x.van(0, 40, 6));
        isAChange(check, "van, its seats alone", x -> x.van(0, 60, 0), x -> x.van(0, 60, 0));
    }

    private static void vanMinutes(Check check) {
        ShuttleDoors x = new ShuttleDoors();
        check.same("0", x.van(3, 0, 6), 0);
        check.same("leaves", x.vanOf(3, 0), 0);
        check.same("1500", x.van(3, 1500, 6), 0);
        check.same("leaves", x.vanOf(3, 0), 1500);
        check.same("-1", x.van(3, -1, 6), -102);
        check.same("1501", x.van(3, 1501, 6), -102);
        check.same("still", x.vanOf(3, 0), 1500);
    }

    private static void vanSeats(Check check) {
        ShuttleDoors x = Texts.airport("0a0x4,0a0x4,0a0x4,0a0x4");
        check.same("12", x.van(0, 60, 12), 4);
        check.same("seats", x.vanOf(0, 1), 12);
        check.same("people in them", x.vanOf(0, 2), 12);
        check.same("0", x.van(0, 60, 0), 16);
        check.same("seats", x.vanOf(0, 1), 0);
        check.same("-1", x.van(0, 60, -1), -102);
        check.same("13", x.van(0, 60, 13), -102);
        check.same("still", x.vanOf(0, 1), 0);
    }

    private static void vanStranded(Check check) {
        ShuttleDoors x = new ShuttleDoors();
        check.same("nobody is there", x.van(0, 60, 0), 0);
        x.ride(0, 0, 0, 3);
        check.same("3 people, not 1 rider", x.van(0, 60, 2), 3);
        check.same("then, not before", x.van(0, 60, 3), 0);
        x.ride(5, 0, 0, 2);
        check.same("another van than its own", x.van(7, 480, 6), 0);
        check.same("its own", x.van(5, 360, 1), 2);
        check.same("the next one takes them", x.van(6, 390, 6), 0);
        check.same("those of all vans", x.van(0, 29, 6), 3);
        ShuttleDoors y = new ShuttleDoors();
        for (int rider = 0; rider < 24; rider++) {
            y.ride(0, 0, 0, 4);
        }
        check.same("24 riders of 4", y.van(0, 60, 0), 96);
        check.same("of them three go", y.van(0, 60, 12), 84);
    }

    private static void vanNoSuch(Check check) {
        check.same("van -1", new ShuttleDoors().van(-1, 0, 0), -101);
        check.same("van 8", new ShuttleDoors().van(8, 0, 0), -101);
        check.same("van 8 and a minute out of range", new ShuttleDoors().van(8, 1501, 0), -101);
        check.same("van -1 and seats out of range", new ShuttleDoors().van(-1, 0, -1), -101);
        check.same("van 0", new ShuttleDoors().van(0, 0, 0), 0);
        check.same("van 7", new ShuttleDoors().van(7, 0, 0), 0);
        for (int van : FAR) {
            check.same("van " + van, new ShuttleDoors().van(van, 0, 0), -101);
        }
    }

    private static void vanOutOfRange(Check check) {
        for (int van : new int[] {0, 7}) {
            check.same("minute -1", new ShuttleDoors().van(van, -1, 0), -102);
            check.same("minute 1501", new ShuttleDoors().van(van, 1501, 0), -102);
            check.same("seats -1", new ShuttleDoors().van(van, 0, -1), -102);
            check.same("seats 13", new ShuttleDoors().van(van, 0, 13), -102);
            check.same("both", new ShuttleDoors().van(van, -1, 13), -102);
        }
        for (int far : FAR) {
            check.same("minute " + far, new ShuttleDoors().van(0, far, 0), -102);
            check.same("seats " + far, new ShuttleDoors().van(0, 0, far), -102);
        }
    }

    private static void ride(Check check) {
        ShuttleDoors x = new ShuttleDoors();
        x.ride(2, 3, 45, 4);
        check.same("riders", x.count(5), 1);
        int[] due = {2, 3, 45, 4, 150, 2, 30, 205, 66, 0};
        for (int what = 0; what < due.length; what++) {
            check.same("rider(0, " + what + ")", x.rider(0, what), due[what]);
        }
        x.ride(2, 3, 45, 4);
        check.same("another one alike", x.count(5), 2);
        check.same("finds no seats", x.rider(1, 5), NONE);
        check.same("the first stays", x.rider(0, 5), 2);
    }

    private static void rideIsAChange(Check check) {
        List<Twins.Calls> states = List.of(Twins::fresh, Twins::lived);
        for (Twins.Calls before : states) {
            Twins.Call call = x -> x.ride(0, 0, 0, 1);
            Twins.isChange(check, "ride", before, call, Twins.answer(before, call));
        }
        ShuttleDoors x = new ShuttleDoors();
        for (int rider = 0; rider < 24; rider++) {
            x.ride(0, 0, 0, 1);
            check.same("changes with rider " + rider, x.count(15), Math.min(rider + 1, 6));
        }
        for (int left = 5; left >= 0; left--) {
            check.same("undo", x.undo(), left);
            check.same("riders", x.count(5), 18 + left);
        }
    }

    private static void rideDoors(Check check) {
        ShuttleDoors x = new ShuttleDoors();
        check.same("0", x.ride(0, 0, 0, 1), 0);
        check.same("99", x.ride(0, 0, 99, 1), 1);
        check.same("is told", x.rider(0, 2), 0);
        check.same("is told", x.rider(1, 2), 99);
        check.same("-1", x.ride(0, 0, -1, 1), -102);
        check.same("100", x.ride(0, 0, 100, 1), -102);
        check.same("nobody came", x.count(5), 2);
    }

    private static void ridePeople(Check check) {
        ShuttleDoors x = new ShuttleDoors();
        check.same("1", x.ride(0, 0, 0, 1), 0);
        check.same("4", x.ride(0, 0, 0, 4), 1);
        check.same("is told", x.rider(0, 3), 1);
        check.same("is told", x.rider(1, 3), 4);
        check.same("0", x.ride(0, 0, 0, 0), -102);
        check.same("5", x.ride(0, 0, 0, 5), -102);
        check.same("nobody came", x.count(6), 5);
    }

    private static void rideNumber(Check check) {
        ShuttleDoors x = new ShuttleDoors();
        for (int rider = 0; rider < 24; rider++) {
            check.same("the next", x.ride(rider % 6, 0, 0, 1), rider);
        }
        x.cancel(3);
        check.same("after one has cancelled", x.ride(0, 0, 0, 1), 23);
        x.undo();
        check.same("after undo", x.ride(0, 0, 0, 1), 23);
        ShuttleDoors y = Texts.airport("0a0,0a0");
        check.same("behind those who were read", y.ride(0, 0, 0, 1), 2);
    }

    private static void rideNoSuch(Check check) {
        check.same("flight -1", new ShuttleDoors().ride(-1, 0, 0, 1), -101);
        check.same("flight 6", new ShuttleDoors().ride(6, 0, 0, 1), -101);
        check.same("area -1", new ShuttleDoors().ride(0, -1, 0, 1), -101);
        check.same("area 6", new ShuttleDoors().ride(0, 6, 0, 1), -101);
        check.same("area 6, and the others are out of range", new ShuttleDoors().ride(0, 6, 100, 5), -101);
        check.same("flight 5", new ShuttleDoors().ride(5, 0, 0, 1), 0);
        check.same("area 5", new ShuttleDoors().ride(0, 5, 0, 1), 0);
        for (int far : FAR) {
            check.same("flight " + far, new ShuttleDoors().ride(far, 0, 0, 1), -101);
            check.same("area " + far, new ShuttleDoors().ride(0, far, 0, 1), -101);
        }
    }

    private static void rideOutOfRange(Check check) {
        check.same("door -1", new ShuttleDoors().ride(0, 0, -1, 1), -102);
        check.same("door 100", new ShuttleDoors().ride(0, 0, 100, 1), -102);
        check.same("people 0", new ShuttleDoors().ride(0, 0, 0, 0), -102);
        check.same("people 5", new ShuttleDoors().ride(0, 0, 0, 5), -102);
        for (int far : FAR) {
            check.same("door " + far, new ShuttleDoors().ride(0, 0, far, 1), -102);
            check.same("people " + far, new ShuttleDoors().ride(0, 0, 0, far), -102);
        }
        ShuttleDoors x = new ShuttleDoors();
        Twins.full(x);
        check.same("door 100, 24 being there", x.ride(0, 0, 100, 1), -102);
        check.same("people 0, 24 being there", x.ride(0, 0, 0, 0), -102);
    }

    private static void rideTooMany(Check check) {
        ShuttleDoors x = new ShuttleDoors();
        for (int rider = 0; rider < 23; rider++) {
            x.ride(0, 0, 0, 4);
        }
        check.same("the last one", x.ride(0, 0, 0, 4), 23);
        check.same("one too many", x.ride(0, 0, 0, 1), -104);
        check.same("riders", x.count(5), 24);
        check.same("people", x.count(6), 96);
        check.same("one cancels", x.cancel(0), 66);
        check.same("there is room again", x.ride(0, 0, 0, 1), 23);
        check.same("for one", x.ride(0, 0, 0, 1), -104);
    }

    private static void read(Check check) {
        ShuttleDoors x = Texts.airport("1b7x2");
        Texts.put(x, "5f99x4,0a0");
        x.read();
        int[][] due = {{1, 1, 7, 2}, {5, 5, 99, 4}, {0, 0, 0, 1}};
        for (int rider = 0; rider < 3; rider++) {
            for (int what = 0; what < 4; what++) {
                check.same("rider(" + rider + ", " + what + ")", x.rider(rider, what), due[rider][what]);
            }
        }
        check.same("they get vans", x.rider(1, 5), 5);
        check.same("the pad is empty", x.count(14), 0);
        check.same("and has the fault of an empty one", x.fault(), 0);
        check.same("and can't be read once more", x.read(), -103);
        check.same("riders", x.count(5), 3);
    }

    private static void readIsAChange(Check check) {
        Twins.isChange(check, "read", x -> Texts.put(x, "0a0"), x -> x.read(), 1);
        Twins.isChange(check, "read of 15", x -> {
            Twins.lived(x);
            x.wipe();
            Texts.put(x, "0a0,0a0,0a0,0a0,0a0,0a0,0a0,0a0,0a0,0a0,0a0,0a0,0a0,0a0,0a0");
        }, x -> x.read(), 18);
        ShuttleDoors x = Texts.airport("0a0,1a0,2a0");
        check.same("one change for all", x.count(15), 1);
        check.same("undo", x.undo(), 0);
        check.same("nobody is there", x.count(5), 0);
        check.same("and nothing on the pad", x.count(14), 0);
    }

    private static void readCount(Check check) {
        ShuttleDoors x = new ShuttleDoors();
        for (int riders = 1; riders <= 24; riders++) {
            Texts.put(x, "5f99x4");
            check.same("one more", x.read(), riders);
        }
        for (int riders = 1; riders <= 15; riders++) {
            ShuttleDoors y = new ShuttleDoors();
            y.ride(0, 0, 0, 1);
            Texts.put(y, "0a0,".repeat(riders - 1) + "0a0");
            check.same(riders + " at once, and the one ahead", y.read(), riders + 1);
        }
    }

    private static void readBadText(Check check) {
        for (String text : new String[] {"", "0", "0a", "0a0,", "0a0x", "0a00", "0a100", "0a0x5", "6a0", "0g0", "0a0,0a0,z"}) {
            ShuttleDoors x = Texts.airport("1b1");
            Texts.put(x, text);
            check.same("text " + text, x.read(), -103);
            check.same("it stays", x.count(14), text.length());
            check.same("nobody came", x.count(5), 1);
            check.same("no change", x.count(15), 1);
        }
        ShuttleDoors x = new ShuttleDoors();
        Twins.full(x);
        check.same("a fault, and too many", x.read(), -103);
    }

    private static void readTooMany(Check check) {
        for (int there = 9; there <= 24; there++) {
            for (int more = 1; more <= 15; more++) {
                ShuttleDoors x = new ShuttleDoors();
                for (int rider = 0; rider < there; rider++) {
                    x.ride(0, 0, 0, 1);
                }
                String text = "0a0,".repeat(more - 1) + "0a0";
                Texts.put(x, text);
                boolean fits = there + more <= 24;
                check.same(more + " to " + there, x.read(), fits ? there + more : -104);
                check.same("the pad then", x.count(14), fits ? 0 : text.length());
                check.same("riders then", x.count(5), fits ? there + more : there);
            }
        }
    }

    private static void cancel(Check check) {
        for (int gone = 0; gone < 24; gone++) {
            ShuttleDoors x = new ShuttleDoors();
            for (int rider = 0; rider < 24; rider++) {
                x.ride(rider % 6, rider % 5, rider, rider % 4 + 1);
            }
            x.cancel(gone);
            check.same("riders", x.count(5), 23);
            check.same("no rider 23", x.rider(23, 0), -101);
            for (int rider = 0; rider < 23; rider++) {
                int was = rider < gone ? rider : rider + 1;
                String name = "rider " + rider + ", without " + gone;
                check.same(name + ", flight", x.rider(rider, 0), was % 6);
                check.same(name + ", area", x.rider(rider, 1), was % 5);
                check.same(name + ", door", x.rider(rider, 2), was);
                check.same(name + ", people", x.rider(rider, 3), was % 4 + 1);
            }
        }
        ShuttleDoors x = Texts.airport("0a0x4,0a0x3,5f9");
        check.same("stranded", x.rider(1, 5), NONE);
        x.cancel(0);
        check.same("its seats are free", x.rider(0, 5), 0);
        check.same("the last one has another number", x.rider(1, 5), 5);
        x.cancel(1);
        x.cancel(0);
        check.same("nobody is left", x.count(5), 0);
        check.same("nobody is in the van", x.vanOf(0, 2), 0);
        check.same("or stranded", x.count(8), 0);
    }

    private static void cancelIsAChange(Check check) {
        for (int gone : new int[] {0, 11, 23}) {
            Twins.Call call = x -> x.cancel(gone);
            Twins.isChange(check, "cancel of " + gone, Twins::full, call, Twins.answer(Twins::full, call));
        }
        Twins.Call first = x -> x.cancel(0);
        Twins.isChange(check, "cancel", Twins::lived, first, Twins.answer(Twins::lived, first));
        Twins.isChange(check, "cancel of the only one", x -> x.ride(0, 0, 0, 1), first, 66);
        Twins.isChange(check, "cancel of a stranded one", Twins::lived, x -> x.cancel(2), 0);
    }

    private static void cancelFare(Check check) {
        check.same("alone", Texts.airport("0a0").cancel(0), 66);
        check.same("with another one at the stop", Texts.airport("0a0,0a0").cancel(0), 33);
        check.same("at another stop", Texts.airport("0a0x2,0a1").cancel(0), 46);
        check.same("the last one", Texts.airport("0a0x2,0a1").cancel(1), 26);
        check.same("stranded", Texts.airport("0a0x4,0a1x4").cancel(1), 0);
        ShuttleDoors x = Texts.airport("0a0,0a1");
        x.set(ShuttleDoors.COST, 61);
        x.set(ShuttleDoors.DOOR, 0);
        check.same("without the coin that is left over", x.cancel(1), 30);
        x.undo();
        check.same("with it", x.cancel(0), 31);
        x.set(ShuttleDoors.COST, 0);
        check.same("nothing", x.cancel(0), 0);
        check.same("the most", mostDear().cancel(0), 340);
    }

    private static ShuttleDoors mostDear() {
        ShuttleDoors x = Texts.airport("0a0x4");
        x.set(ShuttleDoors.COST, 300);
        x.set(ShuttleDoors.DOOR, 40);
        return x;
    }

    private static void cancelNoSuch(Check check) {
        ShuttleDoors x = new ShuttleDoors();
        check.same("nobody is there", x.cancel(0), -101);
        for (int riders = 1; riders <= 24; riders++) {
            check.same("behind the last", x.cancel(riders - 1), -101);
            check.same("ahead of the first", x.cancel(-1), -101);
            x.ride(0, 0, 0, 1);
        }
        check.same("24 of 24", x.cancel(24), -101);
        for (int rider : FAR) {
            check.same("rider " + rider, x.cancel(rider), -101);
        }
        check.holds("the last one", x.cancel(23) >= 0);
        check.same("is gone", x.cancel(23), -101);
    }

    private static void rebook(Check check) {
        ShuttleDoors x = Texts.airport("0a5x2,1b6x3,2c7x4");
        x.rebook(1, 5);
        int[][] due = {{0, 0, 5, 2}, {5, 1, 6, 3}, {2, 2, 7, 4}};
        for (int rider = 0; rider < 3; rider++) {
            for (int what = 0; what < 4; what++) {
                check.same("rider(" + rider + ", " + what + ")", x.rider(rider, what), due[rider][what]);
            }
        }
        check.same("it is ready with its new flight", x.rider(1, 4), 330);
        check.same("gets a van of it", x.rider(1, 5), 5);
        check.same("and leaves its old one", x.vanOf(1, 2), 0);
        for (int flight = 0; flight < 6; flight++) {
            ShuttleDoors y = Texts.airport((flight + 1) % 6 + "a0");
            check.same("to " + flight, y.rebook(0, flight), flight);
            check.same("it is its flight", y.rider(0, 0), flight);
        }
    }

    private static void rebookIsAChange(Check check) {
        Twins.isChange(check, "rebook", Twins::lived, x -> x.rebook(0, 5), 5);
        Twins.isChange(check, "rebook of the last", Twins::full, x -> x.rebook(23, 0), 0);
        Twins.isChange(check, "rebook of the only one", x -> x.ride(0, 0, 0, 1), x -> x.rebook(0, 1), 1);
        Twins.isChange(check, "rebook of a stranded one", Twins::lived, x -> x.rebook(2, 5), 5);
        Twins.isChange(check, "rebook that strands", x -> {
            x.ride(1, 0, 0, 4);
            x.van(0, 60, 3);
        }, x -> x.rebook(0, 0), NONE);
    }

    private static void rebookVan(Check check) {
        ShuttleDoors x = Texts.airport("0a0x4,1a0x4");
        check.same("the other one has the seats", x.rebook(1, 0), NONE);
        check.same("back", x.rebook(1, 1), 1);
        check.same("the lower number comes first", x.rebook(0, 1), 1);
        check.same("the other one is stranded then", x.rider(1, 5), NONE);
        check.same("to flight 5", x.rebook(1, 5), 5);
        x.van(0, 45, 6);
        check.same("to flight 0", x.rebook(1, 0), 0);
    }

    private static void rebookNoSuch(Check check) {
        check.same("nobody is there", new ShuttleDoors().rebook(0, 1), -101);
        ShuttleDoors x = Texts.airport("0a0");
        check.same("rider 1", x.rebook(1, 1), -101);
        check.same("rider -1", x.rebook(-1, 1), -101);
        check.same("flight -1", x.rebook(0, -1), -101);
        check.same("flight 6", x.rebook(0, 6), -101);
        check.same("neither", x.rebook(1, 6), -101);
        check.same("rider 1, whose flight 0 would be", x.rebook(1, 0), -101);
        for (int far : FAR) {
            check.same("rider " + far, x.rebook(far, 1), -101);
            check.same("flight " + far, x.rebook(0, far), -101);
        }
        ShuttleDoors y = new ShuttleDoors();
        Twins.full(y);
        check.same("rider 24 of 24", y.rebook(24, 0), -101);
        check.same("the last one", y.rebook(23, 4), 4);
    }

    private static void rebookNotPossible(Check check) {
        for (int flight = 0; flight < 6; flight++) {
            ShuttleDoors x = Texts.airport("0a0," + flight + "a0");
            check.same("flight " + flight, x.rebook(1, flight), -105);
            check.same("no change", x.count(15), 1);
        }
        ShuttleDoors x = Texts.airport("0a0");
        x.rebook(0, 3);
        check.same("its new one", x.rebook(0, 3), -105);
        check.same("its old one is another one now", x.rebook(0, 0), 0);
        x.van(0, 0, 0);
        check.same("also if it is stranded", x.rebook(0, 0), -105);
    }
}
