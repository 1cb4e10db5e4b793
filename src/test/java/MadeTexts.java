import java.util.ArrayList;
import java.util.Collections;
import java.util.List;
import java.util.Random;

/** Texts of scores by chance, sound ones and spoiled ones. */
final class MadeTexts {
    private MadeTexts() {
    }

    private static String gapText(Random random, boolean needed) {
        String[] some = {"", " ", "\n", "  ", " \n "};
        return some[needed ? 1 + random.nextInt(4) : random.nextInt(8) % 5];
    }

    static String madeText(Random random, int n) {
        StringBuilder text = new StringBuilder(gapText(random, false));
        int rows = 1 + random.nextInt(random.nextInt(5) == 0 ? 7 : 3);
        for (int r = 0; r < rows; r++) {
            List<Integer> notes = new ArrayList<>();
            for (int i = 0; i < n; i++) {
                notes.add(i);
            }
            Collections.shuffle(notes, random);
            char letter = "pairutz".charAt(r);
            text.append("row").append(gapText(random, true)).append(letter).append(gapText(random, false)).append('=');
            for (int note : notes) {
                text.append(gapText(random, true)).append(random.nextInt(9) == 0 && note < 10 ? "0" : "").append(note);
            }
            text.append(gapText(random, false)).append(';').append(gapText(random, false));
        }
        int voices = random.nextInt(10);
        for (int v = 0; v < voices; v++) {
            text.append("voice").append(gapText(random, true)).append("pairutz".charAt(random.nextInt(rows)));
            text.append(gapText(random, true)).append("piru".charAt(random.nextInt(4))).append(gapText(random, false));
            text.append(random.nextInt(n)).append(gapText(random, false)).append("at").append(gapText(random, false));
            text.append(random.nextInt(random.nextInt(30) == 0 ? 60 : 20)).append(gapText(random, false)).append(';');
        }
        return text.toString();
    }

    static String spoiled(Random random, String text) {
        StringBuilder made = new StringBuilder(text);
        String signs = "aprowviceut=;;  \n0123459A\tZ\u00ff";
        for (int i = random.nextInt(3); i > 0 && made.length() > 0; i--) {
            int at = random.nextInt(made.length());
            char sign = signs.charAt(random.nextInt(signs.length()));
            switch (random.nextInt(4)) {
                case 0 -> made.setCharAt(at, sign);
                case 1 -> made.insert(at, sign);
                case 2 -> made.deleteCharAt(at);
                default -> made.setLength(at);
            }
        }
        return made.length() > 800 ? made.substring(0, 800) : made.toString();
    }
}
