/** Promises 20 to 22: put, wipe, fault. */
public final class TextsTest {
    private static final Check check = new Check("TextsTest");

    public static void main(String[] args) {
        put();
        wipe();
        faults();
        notChanges();
        check.end();
    }

    private static void put() {
        ShuttleDoors x = new ShuttleDoors();
        check.same("no character", x.put(0), -102);
        check.same("code 32", x.put(32), -102);
        check.same("code 127", x.put(127), -102);
        check.same("code 128", x.put(128), -102);
        check.same("code 255", x.put(255), -102);
        check.same("all bits", x.put(-1), -102);
        check.same("the greatest bit", x.put(Long.MIN_VALUE), -102);
        check.same("0 as the last character", x.put(0x6100L), -102);
        check.same("a 0 between", x.put(0x610061L), -102);
        check.same("a bit far above a 0", x.put(0x100000000000061L), -102);
        check.same("a code out of range as the first", x.put(0x2061L), -102);
        check.same("a code out of range as the eighth", x.put(0x8061616161616161L), -102);
        check.same("a bad code in the midst", x.put(0x61617f61L), -102);
        check.same("nothing was put", x.count(14), 0);
        check.same("code 33", x.put(33), 1);
        check.same("code 126", x.put(126), 2);
        check.same("8 characters", x.put(0x7e7e7e7e7e7e7e7eL), 10);
        for (int length = 18; length <= 58; length += 8) {
            check.same("up to " + length, x.put(0x2121212121212121L), length);
        }
        check.same("3 more", x.put(0x616161L), -104);
        check.same("BAD_VALUE ahead of TOO_MANY", x.put(0x6161617fL), -102);
        check.same("it stays", x.count(14), 58);
        check.same("2 more", x.put(0x6161L), 60);
        check.same("one more", x.put(0x61L), -104);
        check.same("no character at the end", x.put(0), -102);
        ShuttleDoors y = new ShuttleDoors();
        check.same("the first character is the highest", y.put(Texts.number("3d42x2")), 6);
        check.same("next", y.put(Texts.number(",1a0")), 10);
        check.same("read", y.read(), 2);
        check.same("flight", y.rider(0, 0), 3);
        check.same("area", y.rider(0, 1), 3);
        check.same("door", y.rider(0, 2), 42);
        check.same("people", y.rider(0, 3), 2);
        check.same("flight of the next", y.rider(1, 0), 1);
    }

    private static void wipe() {
        ShuttleDoors x = new ShuttleDoors();
        check.same("empty", x.wipe(), 0);
        Texts.put(x, "0a0");
        check.same("3", x.wipe(), 3);
        check.same("length", x.count(14), 0);
        check.same("again", x.wipe(), 0);
        Texts.put(x, "1");
        check.same("old characters are gone", x.fault(), 1);
        Texts.put(x, "a0");
        check.same("and new ones stand", x.fault(), -106);
    }

    private static void fault(String text, int due) {
        ShuttleDoors x = new ShuttleDoors();
        if (!text.isEmpty()) {
            check.same("put " + text, Texts.put(x, text), text.length());
        }
        check.same("fault of " + text, x.fault(), due);
        check.same("again, of " + text, x.fault(), due);
        check.same("the pad stays, " + text, x.count(14), text.length());
        int read = x.read();
        check.holds("read agrees, " + text, due == -106 ? read > 0 : read == -103);
    }

    private static void faults() {
        for (String whole : new String[] {"0a0", "5f99", "5f99x4", "0a1x1", "0a9,0a0", "0a10,1b2x3,2c33", "0a0x1,0a0"}) {
            fault(whole, -106);
        }
        for (String cut : new String[] {"", "0", "0a", "0a0x", "0a0,", "0a0,1", "0a0,1b", "0a10x", "0a10x2,"}) {
            fault(cut, cut.length());
        }
        for (String first : new String[] {"6", "a", "/", ",", "x", "6a0", "9"}) {
            fault(first, 0);
        }
        for (String second : new String[] {"0g", "0A", "00", "0`", "0,", "0x", "0F0"}) {
            fault(second, 1);
        }
        for (String third : new String[] {"0a,", "0ax", "0a-", "0a:", "0a/", "0aa"}) {
            fault(third, 2);
        }
        for (String fourth : new String[] {"0a00", "0a01", "0a09", "0a0a", "0a5y", "0a5X", "0a1:", "0a1/", "0a0;"}) {
            fault(fourth, 3);
        }
        for (String fifth : new String[] {"0a100", "0a995", "0a0x0", "0a0x5", "0a0xx", "0a0,,", "0a0,6", "0a0,a", "0a12y"}) {
            fault(fifth, 4);
        }
        for (String sixth : new String[] {"0a0x11", "0a0x1x", "0a0x10", "0a10x5", "0a0x4a", "0a0,0g"}) {
            fault(sixth, 5);
        }
        fault("0a0,1b11x3,2c22,3d3,4e44x4,5f55,0a66x1,1b77x2,2c8,3d9x1,4e10", -106);
        fault("0a0,1b11x3,2c22,3d3,4e44x4,5f55,0a66x1,1b77x2,2c8,3d9x1,4e1,", 60);
        fault("0a0,1b11x3,2c22,3d3,4e44x4,5f55,0a66x1,1b77x2,2c8,3d9x1,4e1z", 59);
    }

    private static void notChanges() {
        ShuttleDoors x = new ShuttleDoors();
        x.set(0, 1);
        Texts.put(x, "0a0");
        check.same("put is no change", x.count(15), 1);
        check.same("undo keeps the pad", x.undo(), 0);
        check.same("length", x.count(14), 3);
        x.wipe();
        check.same("wipe is no change", x.count(15), 0);
    }
}
