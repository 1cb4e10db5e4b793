/** Texts onto the tape and back from what was written. */
final class Texts {
    private Texts() {
    }

    static int four(String text, int from) {
        int made = 0;
        for (int i = from; i < from + 4; i++) {
            made = made << 8 | (i < text.length() ? text.charAt(i) : 0);
        }
        return made;
    }

    static void feedAll(ToneHouse x, String text) {
        x.end(0);
        for (int i = 0; i < text.length(); i += 20) {
            int got = x.feed(four(text, i), four(text, i + 4), four(text, i + 8), four(text, i + 12), four(text, i + 16));
            Check.due("25: feed of " + text, got, i + 20);
        }
        Check.due("26: end of " + text, x.end(text.length()), text.length());
    }

    static int loadText(ToneHouse x, String text) {
        feedAll(x, text);
        int got = x.load();
        Check.due("27: the tape is empty then", x.end(1), -1);
        return got;
    }

    static String outText(ToneHouse x) {
        int length = x.write();
        StringBuilder made = new StringBuilder();
        for (int i = 0; i < length; i++) {
            made.append((char) x.out(i));
        }
        for (int i : new int[] {Integer.MIN_VALUE, -1, length, length + 1, Integer.MAX_VALUE}) {
            Check.due("36: out(" + i + ")", x.out(i), -1);
        }
        return made.toString();
    }
}
