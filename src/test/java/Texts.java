/** Puts a text on an object's tape, as many bytes as feed() takes at once. */
final class Texts {
    private Texts() {
    }

    static void feed(WidowDeeds x, String text) {
        for (int from = 0; from < text.length(); from += 20) {
            int[] words = new int[5];
            for (int i = 0; i < 20; i++) {
                int sign = from + i < text.length() ? text.charAt(from + i) : ' ';
                words[i / 4] = words[i / 4] << 8 | sign;
            }
            x.feed(words[0], words[1], words[2], words[3], words[4]);
        }
    }

    static int law(WidowDeeds x, int i, String text) {
        feed(x, text);
        return x.law(i, text.length());
    }
}
