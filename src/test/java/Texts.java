/** Puts texts on a pad. */
final class Texts {
    private Texts() {
    }

    /** The number that stands for up to 8 characters. */
    static long number(String text) {
        long number = 0;
        for (char c : text.toCharArray()) {
            number = number << 8 | c;
        }
        return number;
    }

    /** Returns what the last call of put answered. */
    static int put(ShuttleDoors x, String text) {
        int answer = 0;
        for (int i = 0; i < text.length(); i += 8) {
            answer = x.put(number(text.substring(i, Math.min(i + 8, text.length()))));
        }
        return answer;
    }

    /** A new object to which the riders of a text came. */
    static ShuttleDoors airport(String text) {
        ShuttleDoors x = new ShuttleDoors();
        put(x, text);
        x.read();
        return x;
    }
}
