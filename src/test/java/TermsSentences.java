import java.util.List;

/** Terms: the conventions, the settings, flights and riders, the constants, and what the interface says ahead of calls. */
final class TermsSentences {
    private static final int NONE = -106;

    private TermsSentences() {
    }

    private static Sentence about(String words, java.util.function.Consumer<Check> test) {
        return new Sentence("Terms", words, test);
    }

    static List<Sentence> all() {
        return List.of(
            about("CONVENTIONS. A method that fails returns one of the error codes NO_SUCH (-101), BAD_VALUE (-102), BAD_TEXT (-103), "
                + "TOO_MANY (-104) and NOT_POSSIBLE (-105);", TermsSentences::errorCodes),
            about("it names its errors in the order in which they are checked, and the first one that applies is returned.",
                TermsSentences::firstError),
            about("A call that returns an error changes nothing.", TermsSentences::refusedCalls),
            about("NONE (-106) is not an error;", TermsSentences::noneIsNoError),
            about("it is returned only if no error applies.", TermsSentences::noneComesLast),
            about("Everything is numbered from 0.", TermsSentences::numberedFromZero),
            about("Sets are bit masks.", TermsSentences::sets),
            about("Divisions are rounded down.", TermsSentences::roundedDown),
            about("(In parentheses: range; first value.) BAGS (0 to 90; 30),", c -> setting(c, 0, 0, 90, 30)),
            about("PATIENCE (0 to 240; 60): minutes.", c -> setting(c, 1, 0, 240, 60)),
            about("AREAS (1 to 6; 3).", c -> setting(c, 2, 1, 6, 3)),
            about("COST (0 to 300; 60),", c -> setting(c, 3, 0, 300, 60)),
            about("DOOR (0 to 40; 6): coins.", c -> setting(c, 4, 0, 40, 6)),
            about("There are 6 flights, 0 to 5.", TermsSentences::sixFlights),
            about("A flight lands at a minute, 0 to 1200 (at first the flight f at 60 * f),", TermsSentences::landsAt),
            about("and has a delay, -30 to 300 (0 at first).", TermsSentences::hasADelay),
            about("Its riders are ready at the minute at which it lands, its delay and BAGS, together.", TermsSentences::ready),
            about("There are up to 24 riders, numbered in the order in which they came.", TermsSentences::upTo24Riders),
            about("A rider stands for 1 to 4 people, and has a flight, an area, 0 to 5, and a door there, 0 to 99.",
                TermsSentences::whatARiderHas),
            about("The constants: `NO_SUCH = -101, BAD_VALUE = -102, BAD_TEXT = -103, TOO_MANY = -104, NOT_POSSIBLE = -105, "
                + "NONE = -106`: Error codes, and NONE: there is none.", TermsSentences::codes),
            about("`BAGS = 0, PATIENCE = 1, AREAS = 2, COST = 3, DOOR = 4`: Settings.", TermsSentences::settings),
            about("Ahead of the calls `set`, `land`, `delay`, `van`, `ride`, `read`, `cancel`, `rebook` the interface says: "
                + "---- changes.", TermsSentences::changes),
            about("Ahead of the calls `rider`, `vanOf`, `flight`, `stop`, `count`, `kerb` the interface says: "
                + "---- what there is; nothing changes.", TermsSentences::questions),
            about("Ahead of the calls `ifDelayed`, `mostDelay`, `bestMinute`, `fullest` the interface says: "
                + "---- what if; nothing changes.", TermsSentences::whatIfs),
            about("Ahead of the calls `put`, `wipe`, `fault` the interface says: ---- texts.", TermsSentences::texts),
            about("Ahead of the calls `undo`, `save`, `restore` the interface says: ---- undo, saving.",
                TermsSentences::undoAndSaving));
    }

    private static void errorCodes(Check check) {
        ShuttleDoors x = new ShuttleDoors();
        check.same("no such flight", x.land(6, 0), -101);
        check.same("no such value", x.set(0, 91), -102);
        check.same("no such text", x.read(), -103);
        check.same("nothing to undo", x.undo(), -105);
        Texts.put(x, "0a0,0a0,0a0,0a0,0a0,0a0,0a0,0a0,0a0,0a0,0a0,0a0,0a0,0a0,0a0,");
        check.same("one too many", x.put('0'), -104);
    }

    private static void firstError(Check check) {
        for (Refusal r : Refusal.SEVERAL) {
            Twins.nothingChanges(check, r.name(), r.before(), r.call(), r.due());
        }
    }

    private static void refusedCalls(Check check) {
        for (Refusal r : Refusal.SINGLE) {
            Twins.nothingChanges(check, r.name(), r.before(), r.call(), r.due());
        }
    }

    private static void noneIsNoError(Check check) {
        ShuttleDoors x = Texts.airport("1a0");
        x.van(0, 0, 0);
        check.same("no van for flight 0", x.rebook(0, 0), NONE);
        check.same("but it is rebooked", x.rider(0, 0), 0);
        check.same("that is a change", x.count(15), 3);
        check.same("it is undone", x.undo(), 2);
        check.same("its flight before", x.rider(0, 0), 1);
    }

    private static void noneComesLast(Check check) {
        ShuttleDoors x = Texts.airport("0a0");
        x.van(0, 0, 0);
        x.set(ShuttleDoors.PATIENCE, 0);
        check.same("the van of a stranded rider", x.rider(0, 5), NONE);
        check.same("something else of it", x.rider(0, 10), -102);
        check.same("of another one", x.rider(1, 5), -101);
        check.same("the last stop of an empty van", x.vanOf(0, 6), NONE);
        check.same("something else of it", x.vanOf(0, 8), -102);
        check.same("of no van", x.vanOf(8, 6), -101);
        check.same("the last rider at its door", x.count(13), NONE);
        check.same("something else", x.count(16), -102);
        check.same("what a delay would bring", x.ifDelayed(0, 0, 2), NONE);
        check.same("too long a delay", x.ifDelayed(0, 301, 2), -102);
        check.same("of no flight", x.ifDelayed(6, 0, 2), -101);
        check.same("rebooked to flight 1", x.rebook(0, 1), NONE);
        check.same("once more", x.rebook(0, 1), -105);
        check.same("to no flight", x.rebook(0, 6), -101);
    }

    private static void numberedFromZero(Check check) {
        ShuttleDoors x = new ShuttleDoors();
        check.same("the first rider", x.ride(0, 0, 0, 1), 0);
        check.same("the first setting", x.set(0, 30), 30);
        check.same("the first flight", x.land(0, 0), 0);
        check.same("the first van", x.van(0, 60, 6), 0);
        check.same("the first stop", x.stop(0, 0, 0), 0);
        check.same("the first slot", x.save(0), 1);
        check.same("rider -1", x.rider(-1, 0), -101);
        check.same("setting -1", x.set(-1, 1), -102);
        check.same("flight -1", x.land(-1, 0), -101);
        check.same("van -1", x.van(-1, 60, 6), -101);
        check.same("place -1", x.stop(0, -1, 0), -101);
        check.same("slot -1", x.save(-1), -102);
        check.same("rider 1", x.rider(1, 0), -101);
        check.same("place 1", x.stop(0, 1, 0), -101);
        check.same("the first character", x.put('z'), 1);
        check.same("has the fault", x.fault(), 0);
    }

    private static void sets(Check check) {
        ShuttleDoors x = new ShuttleDoors();
        check.same("no riders", x.vanOf(0, 3), 0);
        check.same("no areas", x.vanOf(0, 4), 0);
        x.set(ShuttleDoors.AREAS, 6);
        x.van(0, 60, 12);
        x.van(1, 60, 12);
        for (int rider = 0; rider < 24; rider++) {
            x.ride(0, rider % 6, 0, 1);
            check.same("riders of van 0 at " + rider, x.vanOf(0, 3), (1 << Math.min(rider + 1, 12)) - 1);
            check.same("areas of van 0 at " + rider, x.vanOf(0, 4), (1 << Math.min(rider + 1, 6)) - 1);
        }
        check.same("the last twelve", x.vanOf(1, 3), 0xfff000);
        for (int area = 0; area < 6; area++) {
            ShuttleDoors y = new ShuttleDoors();
            y.ride(0, area, 0, 1);
            check.same("area " + area + " alone", y.vanOf(0, 4), 1 << area);
        }
    }

    private static void roundedDown(Check check) {
        ShuttleDoors x = Texts.airport("0a0x4,0b0x2");
        x.set(ShuttleDoors.DOOR, 0);
        int[][] due = {{0, 0, 0}, {1, 1, 0}, {2, 2, 0}, {3, 2, 1}, {4, 3, 1}, {5, 4, 1}, {6, 4, 2}, {299, 200, 99}};
        for (int[] row : due) {
            x.set(ShuttleDoors.COST, row[0]);
            check.same(row[0] + " * 4 / 6 and what is left over", x.rider(0, 8), row[1]);
            check.same(row[0] + " * 2 / 6", x.rider(1, 8), row[2]);
        }
    }

    private static void setting(Check check, int setting, int least, int most, int first) {
        ShuttleDoors x = new ShuttleDoors();
        check.same("at first", x.count(setting), first);
        check.same("one too small", x.set(setting, least - 1), -102);
        check.same("one too large", x.set(setting, most + 1), -102);
        check.same("the least number there is", x.set(setting, Integer.MIN_VALUE), -102);
        check.same("the greatest number there is", x.set(setting, Integer.MAX_VALUE), -102);
        check.same("it is as it was", x.count(setting), first);
        check.same("the least", x.set(setting, least), first);
        check.same("is set", x.count(setting), least);
        check.same("the greatest", x.set(setting, most), least);
        check.same("is set", x.count(setting), most);
        ShuttleDoors y = new ShuttleDoors();
        int before = first;
        for (int value = least; value <= most; value++) {
            check.same("every one between, " + value, y.set(setting, value), before);
            before = value;
        }
    }

    private static void sixFlights(Check check) {
        for (int flight : new int[] {0, 1, 2, 3, 4, 5}) {
            ShuttleDoors x = new ShuttleDoors();
            check.same("land " + flight, x.land(flight, 0), 60 * flight);
            check.same("delay " + flight, x.delay(flight, 0), 30);
            check.same("ride " + flight, x.ride(flight, 0, 0, 1), 0);
            check.same("flight " + flight, x.flight(flight, 3), 1);
            check.same("ifDelayed " + flight, x.ifDelayed(flight, 0, 0), 0);
            check.same("mostDelay " + flight, x.mostDelay(flight), 300);
            x.rebook(0, (flight + 1) % 6);
            check.same("rebook " + flight, x.rebook(0, flight), 0);
        }
        for (int flight : new int[] {-1, 6, Integer.MIN_VALUE, Integer.MAX_VALUE}) {
            ShuttleDoors x = Texts.airport("0a0");
            check.same("land " + flight, x.land(flight, 0), -101);
            check.same("delay " + flight, x.delay(flight, 0), -101);
            check.same("ride " + flight, x.ride(flight, 0, 0, 1), -101);
            check.same("flight " + flight, x.flight(flight, 3), -101);
            check.same("ifDelayed " + flight, x.ifDelayed(flight, 0, 0), -101);
            check.same("mostDelay " + flight, x.mostDelay(flight), -101);
            check.same("rebook " + flight, x.rebook(0, flight), -101);
        }
    }

    private static void landsAt(Check check) {
        for (int flight = 0; flight < 6; flight++) {
            ShuttleDoors x = new ShuttleDoors();
            check.same("at first, " + flight, x.flight(flight, 0), 60 * flight);
            check.same("one too early, " + flight, x.land(flight, -1), -102);
            check.same("one too late, " + flight, x.land(flight, 1201), -102);
            check.same("the least number there is, " + flight, x.land(flight, Integer.MIN_VALUE), -102);
            check.same("the greatest number there is, " + flight, x.land(flight, Integer.MAX_VALUE), -102);
            check.same("as before, " + flight, x.flight(flight, 0), 60 * flight);
            check.same("the latest, " + flight, x.land(flight, 1200), 60 * flight);
            check.same("it is told, " + flight, x.flight(flight, 0), 1200);
            check.same("the earliest, " + flight, x.land(flight, 0), 1200);
            check.same("it is told, " + flight, x.flight(flight, 0), 0);
        }
    }

    private static void hasADelay(Check check) {
        for (int flight = 0; flight < 6; flight++) {
            ShuttleDoors x = new ShuttleDoors();
            check.same("at first, " + flight, x.flight(flight, 1), 0);
            check.same("one too little, " + flight, x.delay(flight, -31), -102);
            check.same("one too much, " + flight, x.delay(flight, 301), -102);
            check.same("the least number there is, " + flight, x.delay(flight, Integer.MIN_VALUE), -102);
            check.same("the greatest number there is, " + flight, x.delay(flight, Integer.MAX_VALUE), -102);
            check.same("as before, " + flight, x.flight(flight, 1), 0);
            check.same("the greatest, " + flight, x.delay(flight, 300), 60 * flight + 330);
            check.same("it is told, " + flight, x.flight(flight, 1), 300);
            check.same("the least, " + flight, x.delay(flight, -30), 60 * flight);
            check.same("it is told, " + flight, x.flight(flight, 1), -30);
        }
    }

    private static void ready(Check check) {
        ShuttleDoors x = Texts.airport("0a0,1a0");
        check.same("at first", x.rider(0, 4), 30);
        check.same("of the next flight", x.rider(1, 4), 90);
        x.land(0, 1200);
        x.delay(0, 300);
        x.set(ShuttleDoors.BAGS, 90);
        check.same("the latest", x.rider(0, 4), 1590);
        check.same("of its flight", x.flight(0, 2), 1590);
        check.same("the other one has to wait for its bags, too", x.rider(1, 4), 150);
        x.land(0, 0);
        x.delay(0, -30);
        x.set(ShuttleDoors.BAGS, 0);
        check.same("the earliest", x.rider(0, 4), -30);
        check.same("of its flight", x.flight(0, 2), -30);
        check.same("the other one", x.rider(1, 4), 60);
    }

    private static void upTo24Riders(Check check) {
        ShuttleDoors x = new ShuttleDoors();
        for (int rider = 0; rider < 24; rider++) {
            check.same("rider " + rider + " is not there yet", x.rider(rider, 2), -101);
            check.same("rider " + rider + " comes", x.ride(5 - rider % 6, 0, 50 - rider, 1), rider);
        }
        check.same("one too many", x.ride(0, 0, 0, 1), -104);
        for (int rider = 0; rider < 24; rider++) {
            check.same("flight of " + rider, x.rider(rider, 0), 5 - rider % 6);
            check.same("door of " + rider, x.rider(rider, 2), 50 - rider);
        }
        check.same("no rider 24", x.rider(24, 2), -101);
    }

    private static void whatARiderHas(Check check) {
        ShuttleDoors x = new ShuttleDoors();
        check.same("the least of all", x.ride(0, 0, 0, 1), 0);
        check.same("the greatest of all", x.ride(5, 5, 99, 4), 1);
        int[][] due = {{0, 0, 0, 1}, {5, 5, 99, 4}};
        for (int rider = 0; rider < 2; rider++) {
            for (int what = 0; what < 4; what++) {
                check.same("rider(" + rider + ", " + what + ")", x.rider(rider, what), due[rider][what]);
            }
        }
        check.same("area -1", x.ride(0, -1, 0, 1), -101);
        check.same("area 6", x.ride(0, 6, 0, 1), -101);
        check.same("door -1", x.ride(0, 0, -1, 1), -102);
        check.same("door 100", x.ride(0, 0, 100, 1), -102);
        check.same("people 0", x.ride(0, 0, 0, 0), -102);
        check.same("people 5", x.ride(0, 0, 0, 5), -102);
        check.same("nobody came", x.count(5), 2);
    }

    private static void codes(Check check) {
        check.same("NO_SUCH", ShuttleDoors.NO_SUCH, -101);
        check.same("BAD_VALUE", ShuttleDoors.BAD_VALUE, -102);
        check.same("BAD_TEXT", ShuttleDoors.BAD_TEXT, -103);
        check.same("TOO_MANY", ShuttleDoors.TOO_MANY, -104);
        check.same("NOT_POSSIBLE", ShuttleDoors.NOT_POSSIBLE, -105);
        check.same("NONE", ShuttleDoors.NONE, -106);
    }

    private static void settings(Check check) {
        check.same("BAGS", ShuttleDoors.BAGS, 0);
        check.same("PATIENCE", ShuttleDoors.PATIENCE, 1);
        check.same("AREAS", ShuttleDoors.AREAS, 2);
        check.same("COST", ShuttleDoors.COST, 3);
        check.same("DOOR", ShuttleDoors.DOOR, 4);
        ShuttleDoors x = Texts.airport("0a0,0b0");
        x.set(ShuttleDoors.BAGS, 31);
        check.same("BAGS counts for the bags", x.rider(0, 4), 31);
        x.set(ShuttleDoors.PATIENCE, 28);
        check.same("PATIENCE for waiting", x.rider(0, 5), NONE);
        x.set(ShuttleDoors.PATIENCE, 29);
        x.set(ShuttleDoors.AREAS, 1);
        check.same("AREAS for the areas", x.count(7), 1);
        x.set(ShuttleDoors.COST, 7);
        check.same("COST for the van", x.count(10), 13);
        x.set(ShuttleDoors.DOOR, 4);
        check.same("DOOR for the stops", x.count(10), 11);
    }

    private static void changes(Check check) {
        change(check, "set", x -> x.set(ShuttleDoors.BAGS, 0), 20);
        change(check, "land", x -> x.land(0, 5), 0);
        change(check, "delay", x -> x.delay(0, 5), 25);
        change(check, "van", x -> x.van(0, 20, 0), 7);
        change(check, "ride", x -> x.ride(0, 0, 0, 1), 3);
        change(check, "cancel", x -> x.cancel(1), 67);
        change(check, "rebook", x -> x.rebook(1, 4), 4);
        Twins.isChange(check, "read", TermsSentences::livedAndWhole, x -> x.read(), 5);
    }

    private static void change(Check check, String name, Twins.Call call, int due) {
        Twins.isChange(check, name, Twins::lived, call, due);
    }

    private static void livedAndWhole(ShuttleDoors x) {
        Twins.lived(x);
        Texts.put(x, "1b1");
    }

    private static void questions(Check check) {
        for (int what = 0; what < 10; what++) {
            int asked = what;
            question(check, "rider(1, " + what + ")", x -> x.rider(1, asked));
            question(check, "rider(2, " + what + ")", x -> x.rider(2, asked));
        }
        for (int what = 0; what < 8; what++) {
            int asked = what;
            question(check, "vanOf(0, " + what + ")", x -> x.vanOf(0, asked));
            question(check, "vanOf(7, " + what + ")", x -> x.vanOf(7, asked));
        }
        for (int what = 0; what < 5; what++) {
            int asked = what;
            question(check, "flight(0, " + what + ")", x -> x.flight(0, asked));
        }
        for (int what = 0; what < 4; what++) {
            int asked = what;
            question(check, "stop(0, 0, " + what + ")", x -> x.stop(0, 0, asked));
        }
        for (int what = 0; what < 16; what++) {
            int asked = what;
            question(check, "count(" + what + ")", x -> x.count(asked));
        }
        for (int minute : new int[] {0, 20, 60, 3000}) {
            question(check, "kerb(" + minute + ")", x -> x.kerb(minute));
        }
    }

    /** Whatever it answers: the same again, and nothing changes. */
    private static void question(Check check, String name, Twins.Call call) {
        List<Twins.Calls> states = List.of(Twins::fresh, Twins::lived, Twins::full);
        for (Twins.Calls before : states) {
            ShuttleDoors x = new ShuttleDoors();
            before.on(x);
            Twins.nothingChanges(check, name, before, call, call.on(x));
            int first = call.on(x);
            check.same(name + " again", call.on(x), first);
        }
    }

    private static void whatIfs(Check check) {
        for (int flight : new int[] {0, 3, 5}) {
            for (int what = 0; what < 3; what++) {
                int asked = what;
                question(check, "ifDelayed(" + flight + ", 300, " + what + ")", x -> x.ifDelayed(flight, 300, asked));
                question(check, "ifDelayed(" + flight + ", -30, " + what + ")", x -> x.ifDelayed(flight, -30, asked));
            }
            question(check, "mostDelay(" + flight + ")", x -> x.mostDelay(flight));
        }
        for (int van : new int[] {0, 7}) {
            question(check, "bestMinute(" + van + ")", x -> x.bestMinute(van));
        }
        question(check, "fullest()", x -> x.fullest());
    }

    private static void texts(Check check) {
        ShuttleDoors x = Texts.airport("0a0");
        check.same("put", Texts.put(x, "5f99"), 4);
        check.same("is no change", x.count(15), 1);
        check.same("fault", x.fault(), NONE);
        check.same("is no change", x.count(15), 1);
        check.same("wipe", x.wipe(), 4);
        check.same("is no change", x.count(15), 1);
        check.same("nobody came", x.count(5), 1);
        question(check, "fault()", y -> y.fault());
    }

    private static void undoAndSaving(Check check) {
        ShuttleDoors x = Texts.airport("0a0");
        check.same("save", x.save(0), 1);
        check.same("is no change", x.count(15), 1);
        check.same("undo", x.undo(), 0);
        check.same("leaves no change", x.count(15), 0);
        check.same("and can't be undone", x.undo(), -105);
        check.same("restore", x.restore(0), 1);
        check.same("is a change", x.count(15), 1);
    }
}
