import java.util.List;
import java.util.function.Consumer;
import java.util.function.IntPredicate;

/** Terms: texts. Promises 20 to 22: put, wipe, fault. */
final class PadSentences {
    private static final int NONE = -106;
    private static final String FULL = "0a0,1b1x3,2c22,3d3,4e44x4,5f55,0a66x1,1b77x2,2c88,3d9x1,4e10";

    private PadSentences() {
    }

    static List<Sentence> terms() {
        return List.of(
            terms("The pad is a text of at most 60 characters, riders:", PadSentences::atMost60),
            terms("text = rider { \",\" rider };", PadSentences::manyRiders),
            terms("rider = flight area door [ \"x\" people ]:", PadSentences::wholeRider),
            terms("a flight is a digit 0 to 5,", PadSentences::flight),
            terms("an area a letter a to f (0 to 5),", PadSentences::area),
            terms("a door a number from 0 to 99 without leading zeros,", PadSentences::door),
            terms("people a digit 1 to 4 (1 if it is not told).", PadSentences::people),
            terms("The fault is the index of the first character that cannot stand at its place when the text is read from left "
                + "to right;", PadSentences::firstBadCharacter),
            terms("if there is none and the text ends too early (also if it is empty), it is the length of the text.",
                PadSentences::endsTooEarly));
    }

    static List<Sentence> promises() {
        return List.of(
            new Sentence("Promise 20: put", "`int put(long characters)`: Appends characters to the pad.", PadSentences::appends),
            new Sentence("Promise 20: put", "They are given as a number: its lowest 8 bits are the last character, "
                + "the next 8 bits the one before, and so on;", PadSentences::lowestIsLast),
            new Sentence("Promise 20: put", "8 bits that are 0 mean that there are no more characters,", PadSentences::zeroEnds),
            new Sentence("Promise 20: put", "and everything above them has to be 0, too.", PadSentences::nothingAboveZero),
            new Sentence("Promise 20: put", "- `characters`: 1 to 8 characters", PadSentences::oneToEight),
            new Sentence("Promise 20: put", "Returns the length of the pad then;", PadSentences::lengthThen),
            new Sentence("Promise 20: put", "BAD_VALUE if there is no character, a code is not 33 to 126, or a bit above 8 bits "
                + "that are 0 is not 0;", PadSentences::badCharacters),
            new Sentence("Promise 20: put", "TOO_MANY if the pad would be longer than 60.", PadSentences::tooLong),
            new Sentence("Promise 21: wipe", "`int wipe()`: Empties the pad,", PadSentences::wiped),
            new Sentence("Promise 21: wipe", "and returns the length that it had.", PadSentences::lengthBefore),
            new Sentence("Promise 22: fault", "`int fault()`: Returns the fault of the pad,", PadSentences::faultOfThePad),
            new Sentence("Promise 22: fault", "NONE if there is none.", PadSentences::noFault));
    }

    private static Sentence terms(String words, Consumer<Check> test) {
        return new Sentence("Terms", words, test);
    }

    private static int fault(String text) {
        ShuttleDoors x = new ShuttleDoors();
        Texts.put(x, text);
        return x.fault();
    }

    private static void rider(Check check, ShuttleDoors x, int rider, int... due) {
        for (int what = 0; what < due.length; what++) {
            check.same("rider(" + rider + ", " + what + ")", x.rider(rider, what), due[what]);
        }
    }

    /** Behind the beginning of a text, each character that may stand there can, and no other one. */
    private static void next(Check check, String beginning, IntPredicate may) {
        for (int code = 33; code <= 126; code++) {
            String text = beginning + (char) code;
            int due = may.test(code) ? text.length() : beginning.length();
            check.same("fault of " + text + "z", fault(text + "z"), due);
        }
    }

    private static boolean isIn(int code, char least, char most) {
        return code >= least && code <= most;
    }

    private static void atMost60(Check check) {
        ShuttleDoors x = new ShuttleDoors();
        check.same("59", Texts.put(x, FULL.substring(0, 59)), 59);
        check.same("60", x.put('0'), 60);
        check.same("length", x.count(14), 60);
        check.same("one too many", x.put('0'), -104);
        check.same("length", x.count(14), 60);
        check.same("all of them are looked at", x.fault(), NONE);
        check.same("and read", x.read(), 11);
        rider(check, x, 10, 4, 4, 10, 1);
    }

    private static void manyRiders(Check check) {
        ShuttleDoors x = new ShuttleDoors();
        Texts.put(x, "0a0,0a0,0a0,0a0,0a0,0a0,0a0,0a0,0a0,0a0,0a0,0a0,0a0,0a0,0a0");
        check.same("as many as the pad holds", x.fault(), NONE);
        check.same("they come", x.read(), 15);
        check.same("one alone", fault("5f5"), NONE);
        check.same("two", fault("5f5,0a0"), NONE);
        check.same("none ahead of a comma", fault(",0a0"), 0);
        check.same("none behind it", fault("0a0,"), 4);
        check.same("none between two", fault("0a0,,0a0"), 4);
        next(check, "0a0x1", code -> code == ',');
        next(check, "0a12", code -> code == ',' || code == 'x');
        next(check, "0a0,", code -> isIn(code, '0', '5'));
    }

    private static void wholeRider(Check check) {
        ShuttleDoors x = Texts.airport("1b2x3,4e55,0f0x4");
        rider(check, x, 0, 1, 1, 2, 3);
        rider(check, x, 1, 4, 4, 55, 1);
        rider(check, x, 2, 0, 5, 0, 4);
        check.same("no area", fault("055"), 1);
        check.same("no flight", fault("a55"), 0);
        check.same("no door", fault("0a,"), 2);
        check.same("people ahead of the door", fault("0ax1"), 2);
        check.same("people without x", fault("0a123"), 4);
        check.same("x without people", fault("0a1x,"), 4);
        check.same("people told twice", fault("0a1x1x1"), 5);
        next(check, "0a0", code -> code == ',' || code == 'x');
    }

    private static void flight(Check check) {
        next(check, "", code -> isIn(code, '0', '5'));
        for (int flight = 0; flight < 6; flight++) {
            ShuttleDoors x = Texts.airport(flight + "a0");
            check.same("flight " + flight, x.rider(0, 0), flight);
        }
        check.same("flight 6", fault("6a0"), 0);
        check.same("the character below 0", fault("/a0"), 0);
        check.same("flight 6 of the second", fault("0a0,6a0"), 4);
        check.same("two digits", fault("00a0"), 1);
    }

    private static void area(Check check) {
        next(check, "0", code -> isIn(code, 'a', 'f'));
        for (int area = 0; area < 6; area++) {
            ShuttleDoors x = Texts.airport("0" + (char) ('a' + area) + "0");
            check.same("area " + area, x.rider(0, 1), area);
        }
        check.same("g", fault("0g0"), 1);
        check.same("the character below a", fault("0`0"), 1);
        check.same("a capital", fault("0A0"), 1);
        check.same("two letters", fault("0aa0"), 2);
    }

    private static void door(Check check) {
        next(check, "0a", code -> isIn(code, '0', '9'));
        for (int digit = 1; digit < 10; digit++) {
            next(check, "0a" + digit, code -> isIn(code, '0', '9') || code == ',' || code == 'x');
        }
        for (int door = 0; door < 100; door++) {
            ShuttleDoors x = Texts.airport("0a" + door);
            check.same("door " + door, x.rider(0, 2), door);
            ShuttleDoors y = Texts.airport("0a" + door + "x2,0a1");
            check.same("door " + door + " ahead of others", y.rider(0, 2), door);
        }
        for (int digit = 0; digit < 10; digit++) {
            check.same("a leading zero ahead of " + digit, fault("0a0" + digit), 3);
        }
        check.same("100", fault("0a100"), 4);
        check.same("-1", fault("0a-1"), 2);
    }

    private static void people(Check check) {
        next(check, "0a0x", code -> isIn(code, '1', '4'));
        next(check, "0a99x", code -> isIn(code, '1', '4'));
        for (int people = 1; people <= 4; people++) {
            ShuttleDoors x = Texts.airport("0a0x" + people);
            check.same("people " + people, x.rider(0, 3), people);
        }
        check.same("not told", Texts.airport("0a0").rider(0, 3), 1);
        check.same("not told, of a door of two digits", Texts.airport("0a11,0a0x4").rider(0, 3), 1);
        check.same("0", fault("0a0x0"), 4);
        check.same("5", fault("0a0x5"), 4);
        check.same("two digits", fault("0a0x11"), 5);
    }

    private static void firstBadCharacter(Check check) {
        for (int place = 0; place < 60; place++) {
            check.same("z at " + place, fault(FULL.substring(0, place) + "z" + FULL.substring(place + 1)), place);
        }
        check.same("the first of several", fault("0a00z"), 3);
        check.same("what comes behind makes nothing better", fault("0z0,1b1"), 1);
        check.same("and the text ends too early, too", fault("z"), 0);
    }

    private static void endsTooEarly(Check check) {
        check.same("an empty text", new ShuttleDoors().fault(), 0);
        for (String text : new String[] {"0", "0a", "0a0x", "0a99x", "0a0,", "0a99,", "0a0x4,", "0a0,0", "0a0,0a"}) {
            check.same(text, fault(text), text.length());
        }
        for (String text : new String[] {"0a0", "0a9", "0a99", "0a0x1", "0a99x4", "0a0,0a0"}) {
            check.same(text, fault(text), NONE);
        }
        check.same("59 characters and a comma", fault(FULL.substring(0, 59) + ","), 60);
        check.same("59 characters and an x", fault(FULL.substring(0, 59) + "x"), 60);
    }

    private static void appends(Check check) {
        ShuttleDoors x = new ShuttleDoors();
        for (char c : "3d42x2,1a0".toCharArray()) {
            x.put(c);
        }
        check.same("one by one", x.read(), 2);
        rider(check, x, 0, 3, 3, 42, 2);
        rider(check, x, 1, 1, 0, 0, 1);
        x.put(Texts.number("0a0"));
        x.put(Texts.number(",5f99x4"));
        check.same("several at once, on an empty pad and behind others", x.read(), 4);
        rider(check, x, 2, 0, 0, 0, 1);
        rider(check, x, 3, 5, 5, 99, 4);
    }

    private static void lowestIsLast(Check check) {
        ShuttleDoors x = new ShuttleDoors();
        check.same("eight", x.put(0x306131322c316230L), 8);
        check.same("read", x.read(), 2);
        rider(check, x, 0, 0, 0, 12, 1);
        rider(check, x, 1, 1, 1, 0, 1);
        x.put(0x356639L);
        x.put(0x39L);
        check.same("three and one", x.read(), 3);
        rider(check, x, 2, 5, 5, 99, 1);
        x.put(0x613061L);
        check.same("the highest is looked at first", x.fault(), 0);
    }

    private static void zeroEnds(Check check) {
        long characters = 0;
        for (int many = 1; many <= 8; many++) {
            characters = characters << 8 | 'a';
            check.same(many + " characters", new ShuttleDoors().put(characters), many);
        }
    }

    private static void nothingAboveZero(Check check) {
        for (int zero = 0; zero < 7; zero++) {
            long below = 0;
            for (int place = 0; place < zero; place++) {
                below = below << 8 | 'a';
            }
            for (int bit = 8 * zero + 8; bit < 64; bit++) {
                ShuttleDoors x = new ShuttleDoors();
                check.same("bit " + bit + " above a 0 at " + zero, x.put(below | 1L << bit), -102);
                check.same("nothing was put", x.count(14), 0);
            }
            long above = 0x6161616161616161L << 8 * zero + 8;
            check.same("characters above a 0 at " + zero, new ShuttleDoors().put(below | above), -102);
        }
    }

    private static void oneToEight(Check check) {
        check.same("none", new ShuttleDoors().put(0), -102);
        check.same("one", new ShuttleDoors().put(0x61L), 1);
        check.same("eight", new ShuttleDoors().put(0x6161616161616161L), 8);
        check.same("eight of the least", new ShuttleDoors().put(0x2121212121212121L), 8);
        check.same("eight of the greatest", new ShuttleDoors().put(0x7e7e7e7e7e7e7e7eL), 8);
        check.same("the least number there is", new ShuttleDoors().put(Long.MIN_VALUE), -102);
        check.same("the greatest number there is", new ShuttleDoors().put(Long.MAX_VALUE), -102);
        check.same("all bits", new ShuttleDoors().put(-1), -102);
    }

    private static void lengthThen(Check check) {
        for (int many = 1; many <= 8; many++) {
            ShuttleDoors x = new ShuttleDoors();
            int length = 0;
            while (length + many <= 60) {
                length += many;
                check.same(many + " more", x.put(Texts.number("zzzzzzzz".substring(0, many))), length);
                check.same("length", x.count(14), length);
            }
        }
    }

    private static void badCharacters(Check check) {
        check.same("no character", new ShuttleDoors().put(0), -102);
        for (int places = 1; places <= 8; places++) {
            for (int place = 0; place < places; place++) {
                badCodeAt(check, places, place);
            }
        }
    }

    /** All codes at one place, the others being z. The first of several may be 0, since there are just fewer then. */
    private static void badCodeAt(Check check, int places, int place) {
        for (int code = 0; code < 256; code++) {
            long characters = 0;
            for (int at = places - 1; at >= 0; at--) {
                characters = characters << 8 | (at == place ? code : 'z');
            }
            boolean good = code >= 33 && code <= 126;
            boolean fewer = code == 0 && place == places - 1 && places > 1;
            int due = good ? places : fewer ? places - 1 : -102;
            ShuttleDoors x = new ShuttleDoors();
            check.same("code " + code + " at " + place + " of " + places, x.put(characters), due);
            check.same("length", x.count(14), Math.max(due, 0));
        }
    }

    private static void tooLong(Check check) {
        for (int length = 0; length <= 60; length++) {
            for (int many = 1; many <= 8; many++) {
                ShuttleDoors x = new ShuttleDoors();
                Texts.put(x, "z".repeat(length));
                boolean fits = length + many <= 60;
                check.same(many + " behind " + length, x.put(Texts.number("z".repeat(many))), fits ? length + many : -104);
                check.same("length", x.count(14), fits ? length + many : length);
            }
        }
    }

    private static void wiped(Check check) {
        ShuttleDoors x = new ShuttleDoors();
        Texts.put(x, FULL);
        x.wipe();
        check.same("length", x.count(14), 0);
        check.same("fault", x.fault(), 0);
        check.same("nothing is read", x.read(), -103);
        check.same("it begins anew", Texts.put(x, "0"), 1);
        check.same("what was there stays away", x.fault(), 1);
        check.same("there is room for 59 more", Texts.put(x, FULL.substring(1)), 60);
    }

    private static void lengthBefore(Check check) {
        for (int length = 0; length <= 60; length++) {
            ShuttleDoors x = new ShuttleDoors();
            Texts.put(x, "z".repeat(length));
            check.same("of " + length, x.wipe(), length);
            check.same("again", x.wipe(), 0);
        }
    }

    private static void faultOfThePad(Check check) {
        ShuttleDoors x = new ShuttleDoors();
        check.same("of an empty one", x.fault(), 0);
        for (int i = 0; i < FULL.length(); i++) {
            x.put(FULL.charAt(i));
            String text = FULL.substring(0, i + 1);
            boolean whole = text.matches("([0-5][a-f](0|[1-9][0-9]?)(x[1-4])?,)*[0-5][a-f](0|[1-9][0-9]?)(x[1-4])?");
            check.same("of " + text, x.fault(), whole ? NONE : text.length());
        }
    }

    private static void noFault(Check check) {
        ShuttleDoors x = new ShuttleDoors();
        Texts.put(x, "0a0");
        check.same("none", x.fault(), NONE);
        check.same("none still", x.fault(), NONE);
        x.put('0');
        check.same("one", x.fault(), 3);
        x.wipe();
        check.same("of an empty one", x.fault(), 0);
    }
}
