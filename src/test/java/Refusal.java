import java.util.List;

/** A call that fails, what went before, and the error that is due. */
record Refusal(String name, Twins.Calls before, Twins.Call call, int due) {
    private static final int NO_SUCH = -101, BAD_VALUE = -102, BAD_TEXT = -103, TOO_MANY = -104, NOT_POSSIBLE = -105;

    /** One error applies: the values are those next to the range. */
    static final List<Refusal> SINGLE = List.of(
        lived("set(-1, 0)", x -> x.set(-1, 0), BAD_VALUE),
        lived("set(5, 0)", x -> x.set(5, 0), BAD_VALUE),
        lived("set(0, -1)", x -> x.set(0, -1), BAD_VALUE),
        lived("set(0, 91)", x -> x.set(0, 91), BAD_VALUE),
        lived("set(2, 0)", x -> x.set(2, 0), BAD_VALUE),
        lived("set(2, 7)", x -> x.set(2, 7), BAD_VALUE),
        lived("land(-1, 0)", x -> x.land(-1, 0), NO_SUCH),
        lived("land(6, 0)", x -> x.land(6, 0), NO_SUCH),
        lived("land(0, -1)", x -> x.land(0, -1), BAD_VALUE),
        lived("land(0, 1201)", x -> x.land(0, 1201), BAD_VALUE),
        lived("delay(-1, 0)", x -> x.delay(-1, 0), NO_SUCH),
        lived("delay(6, 0)", x -> x.delay(6, 0), NO_SUCH),
        lived("delay(0, -31)", x -> x.delay(0, -31), BAD_VALUE),
        lived("delay(0, 301)", x -> x.delay(0, 301), BAD_VALUE),
        lived("van(-1, 0, 0)", x -> x.van(-1, 0, 0), NO_SUCH),
        lived("van(8, 0, 0)", x -> x.van(8, 0, 0), NO_SUCH),
        lived("van(0, -1, 0)", x -> x.van(0, -1, 0), BAD_VALUE),
        lived("van(0, 1501, 0)", x -> x.van(0, 1501, 0), BAD_VALUE),
        lived("van(0, 0, -1)", x -> x.van(0, 0, -1), BAD_VALUE),
        lived("van(0, 0, 13)", x -> x.van(0, 0, 13), BAD_VALUE),
        lived("ride(-1, 0, 0, 1)", x -> x.ride(-1, 0, 0, 1), NO_SUCH),
        lived("ride(6, 0, 0, 1)", x -> x.ride(6, 0, 0, 1), NO_SUCH),
        lived("ride(0, -1, 0, 1)", x -> x.ride(0, -1, 0, 1), NO_SUCH),
        lived("ride(0, 6, 0, 1)", x -> x.ride(0, 6, 0, 1), NO_SUCH),
        lived("ride(0, 0, -1, 1)", x -> x.ride(0, 0, -1, 1), BAD_VALUE),
        lived("ride(0, 0, 100, 1)", x -> x.ride(0, 0, 100, 1), BAD_VALUE),
        lived("ride(0, 0, 0, 0)", x -> x.ride(0, 0, 0, 0), BAD_VALUE),
        lived("ride(0, 0, 0, 5)", x -> x.ride(0, 0, 0, 5), BAD_VALUE),
        full("ride(0, 0, 0, 1)", x -> x.ride(0, 0, 0, 1), TOO_MANY),
        fresh("read()", x -> x.read(), BAD_TEXT),
        lived("read()", x -> x.read(), BAD_TEXT),
        new Refusal("read() of 1 rider, 24 being there", Refusal::fullAndOneOnThePad, x -> x.read(), TOO_MANY),
        fresh("cancel(0)", x -> x.cancel(0), NO_SUCH),
        lived("cancel(-1)", x -> x.cancel(-1), NO_SUCH),
        lived("cancel(3)", x -> x.cancel(3), NO_SUCH),
        full("cancel(24)", x -> x.cancel(24), NO_SUCH),
        fresh("rebook(0, 1)", x -> x.rebook(0, 1), NO_SUCH),
        lived("rebook(-1, 0)", x -> x.rebook(-1, 0), NO_SUCH),
        lived("rebook(3, 0)", x -> x.rebook(3, 0), NO_SUCH),
        full("rebook(24, 1)", x -> x.rebook(24, 1), NO_SUCH),
        lived("rebook(0, -1)", x -> x.rebook(0, -1), NO_SUCH),
        lived("rebook(0, 6)", x -> x.rebook(0, 6), NO_SUCH),
        lived("rebook(0, 3)", x -> x.rebook(0, 3), NOT_POSSIBLE),
        fresh("rider(0, 0)", x -> x.rider(0, 0), NO_SUCH),
        lived("rider(-1, 0)", x -> x.rider(-1, 0), NO_SUCH),
        lived("rider(3, 0)", x -> x.rider(3, 0), NO_SUCH),
        full("rider(24, 0)", x -> x.rider(24, 0), NO_SUCH),
        lived("rider(0, -1)", x -> x.rider(0, -1), BAD_VALUE),
        lived("rider(0, 10)", x -> x.rider(0, 10), BAD_VALUE),
        lived("vanOf(-1, 0)", x -> x.vanOf(-1, 0), NO_SUCH),
        lived("vanOf(8, 0)", x -> x.vanOf(8, 0), NO_SUCH),
        lived("vanOf(0, -1)", x -> x.vanOf(0, -1), BAD_VALUE),
        lived("vanOf(0, 8)", x -> x.vanOf(0, 8), BAD_VALUE),
        lived("flight(-1, 0)", x -> x.flight(-1, 0), NO_SUCH),
        lived("flight(6, 0)", x -> x.flight(6, 0), NO_SUCH),
        lived("flight(0, -1)", x -> x.flight(0, -1), BAD_VALUE),
        lived("flight(0, 5)", x -> x.flight(0, 5), BAD_VALUE),
        fresh("stop(0, 0, 0)", x -> x.stop(0, 0, 0), NO_SUCH),
        lived("stop(-1, 0, 0)", x -> x.stop(-1, 0, 0), NO_SUCH),
        lived("stop(8, 0, 0)", x -> x.stop(8, 0, 0), NO_SUCH),
        lived("stop(0, -1, 0)", x -> x.stop(0, -1, 0), NO_SUCH),
        lived("stop(0, 1, 0)", x -> x.stop(0, 1, 0), NO_SUCH),
        lived("stop(0, 0, -1)", x -> x.stop(0, 0, -1), BAD_VALUE),
        lived("stop(0, 0, 4)", x -> x.stop(0, 0, 4), BAD_VALUE),
        lived("count(-1)", x -> x.count(-1), BAD_VALUE),
        lived("count(16)", x -> x.count(16), BAD_VALUE),
        lived("kerb(-1)", x -> x.kerb(-1), BAD_VALUE),
        lived("kerb(3001)", x -> x.kerb(3001), BAD_VALUE),
        lived("ifDelayed(-1, 0, 0)", x -> x.ifDelayed(-1, 0, 0), NO_SUCH),
        lived("ifDelayed(6, 0, 0)", x -> x.ifDelayed(6, 0, 0), NO_SUCH),
        lived("ifDelayed(0, -31, 0)", x -> x.ifDelayed(0, -31, 0), BAD_VALUE),
        lived("ifDelayed(0, 301, 0)", x -> x.ifDelayed(0, 301, 0), BAD_VALUE),
        lived("ifDelayed(0, 0, -1)", x -> x.ifDelayed(0, 0, -1), BAD_VALUE),
        lived("ifDelayed(0, 0, 3)", x -> x.ifDelayed(0, 0, 3), BAD_VALUE),
        lived("mostDelay(-1)", x -> x.mostDelay(-1), NO_SUCH),
        lived("mostDelay(6)", x -> x.mostDelay(6), NO_SUCH),
        lived("bestMinute(-1)", x -> x.bestMinute(-1), NO_SUCH),
        lived("bestMinute(8)", x -> x.bestMinute(8), NO_SUCH),
        lived("put(0)", x -> x.put(0), BAD_VALUE),
        lived("put(32)", x -> x.put(32), BAD_VALUE),
        lived("put(127)", x -> x.put(127), BAD_VALUE),
        lived("put of 1b behind a code of 32", x -> x.put(0x203162L), BAD_VALUE),
        lived("put of 1b above a code of 127", x -> x.put(0x31627fL), BAD_VALUE),
        lived("put of 1b above 8 bits that are 0", x -> x.put(0x316200L), BAD_VALUE),
        lived("put of 1 and b, 8 bits that are 0 between", x -> x.put(0x310062L), BAD_VALUE),
        full("put(',')", x -> x.put(','), TOO_MANY),
        full("put of 8", x -> x.put(0x3161312c31613139L), TOO_MANY),
        fresh("undo()", x -> x.undo(), NOT_POSSIBLE),
        new Refusal("undo() once too often", Refusal::allUndone, x -> x.undo(), NOT_POSSIBLE),
        lived("save(-1)", x -> x.save(-1), BAD_VALUE),
        lived("save(2)", x -> x.save(2), BAD_VALUE),
        lived("restore(-1)", x -> x.restore(-1), BAD_VALUE),
        lived("restore(2)", x -> x.restore(2), BAD_VALUE),
        fresh("restore(0)", x -> x.restore(0), NOT_POSSIBLE),
        fresh("restore(1)", x -> x.restore(1), NOT_POSSIBLE),
        full("restore(1), where 0 was saved alone", x -> x.restore(1), NOT_POSSIBLE));

    /** Several errors apply: the one that is named first is due. */
    static final List<Refusal> SEVERAL = List.of(
        lived("land(6, 1201)", x -> x.land(6, 1201), NO_SUCH),
        lived("land(-1, -1)", x -> x.land(-1, -1), NO_SUCH),
        lived("delay(6, 301)", x -> x.delay(6, 301), NO_SUCH),
        lived("delay(-1, -31)", x -> x.delay(-1, -31), NO_SUCH),
        lived("van(8, 1501, 0)", x -> x.van(8, 1501, 0), NO_SUCH),
        lived("van(-1, 0, 13)", x -> x.van(-1, 0, 13), NO_SUCH),
        lived("ride(6, 0, 100, 1)", x -> x.ride(6, 0, 100, 1), NO_SUCH),
        lived("ride(0, 6, 100, 1)", x -> x.ride(0, 6, 100, 1), NO_SUCH),
        lived("ride(6, 0, 0, 5)", x -> x.ride(6, 0, 0, 5), NO_SUCH),
        lived("ride(0, -1, 0, 0)", x -> x.ride(0, -1, 0, 0), NO_SUCH),
        full("ride(6, 0, 0, 1)", x -> x.ride(6, 0, 0, 1), NO_SUCH),
        full("ride(0, 6, 0, 1)", x -> x.ride(0, 6, 0, 1), NO_SUCH),
        full("ride(0, 0, 100, 1)", x -> x.ride(0, 0, 100, 1), BAD_VALUE),
        full("ride(0, 0, 0, 5)", x -> x.ride(0, 0, 0, 5), BAD_VALUE),
        full("ride(6, 6, 100, 5)", x -> x.ride(6, 6, 100, 5), NO_SUCH),
        full("read() of a text with a fault, 24 being there", x -> x.read(), BAD_TEXT),
        new Refusal("read() of an empty text, 24 being there", Refusal::fullAndNothingOnThePad, x -> x.read(), BAD_TEXT),
        fresh("rider(0, 10)", x -> x.rider(0, 10), NO_SUCH),
        lived("rider(3, -1)", x -> x.rider(3, -1), NO_SUCH),
        lived("vanOf(8, 8)", x -> x.vanOf(8, 8), NO_SUCH),
        lived("vanOf(-1, -1)", x -> x.vanOf(-1, -1), NO_SUCH),
        lived("flight(6, 5)", x -> x.flight(6, 5), NO_SUCH),
        lived("flight(-1, -1)", x -> x.flight(-1, -1), NO_SUCH),
        lived("stop(8, 0, 4)", x -> x.stop(8, 0, 4), NO_SUCH),
        lived("stop(0, 1, 4)", x -> x.stop(0, 1, 4), NO_SUCH),
        lived("stop(0, -1, -1)", x -> x.stop(0, -1, -1), NO_SUCH),
        lived("ifDelayed(6, 301, 0)", x -> x.ifDelayed(6, 301, 0), NO_SUCH),
        lived("ifDelayed(-1, 0, 3)", x -> x.ifDelayed(-1, 0, 3), NO_SUCH),
        full("put(0)", x -> x.put(0), BAD_VALUE),
        full("put(127)", x -> x.put(127), BAD_VALUE),
        full("put of a character above 8 bits that are 0", x -> x.put(0x6100L), BAD_VALUE));

    private static Refusal fresh(String name, Twins.Call call, int due) {
        return new Refusal(name + " of a new object", Twins::fresh, call, due);
    }

    private static Refusal lived(String name, Twins.Call call, int due) {
        return new Refusal(name, Twins::lived, call, due);
    }

    private static Refusal full(String name, Twins.Call call, int due) {
        return new Refusal(name + " of a full object", Twins::full, call, due);
    }

    private static void fullAndOneOnThePad(ShuttleDoors x) {
        Twins.full(x);
        x.wipe();
        Texts.put(x, "0a0");
    }

    private static void fullAndNothingOnThePad(ShuttleDoors x) {
        Twins.full(x);
        x.wipe();
    }

    private static void allUndone(ShuttleDoors x) {
        Twins.lived(x);
        for (int i = 0; i < 6; i++) {
            x.undo();
        }
    }
}
