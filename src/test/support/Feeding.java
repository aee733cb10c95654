/** Puts texts on the tape. */
final class Feeding {
    private Feeding() {
    }

    static int[] numbers(String text, int from) {
        int[] five = new int[5];
        for (int i = 0; i < 20; i++) {
            int at = from + i;
            int sign = at < text.length() ? text.charAt(at) & 255 : 0;
            five[i / 4] = five[i / 4] << 8 | sign;
        }
        return five;
    }

    /** The text behind an empty tape, and nothing else on it. */
    static void put(MaySheep x, String text) {
        x.end(0);
        for (int from = 0; from < text.length(); from += 20) {
            int[] f = numbers(text, from);
            x.feed(f[0], f[1], f[2], f[3], f[4]);
        }
        x.end(text.length());
    }

    static int hill(MaySheep x, String text) {
        put(x, text);
        return x.hill();
    }

    static int rule(MaySheep x, String text) {
        put(x, text);
        return x.rule();
    }
}
