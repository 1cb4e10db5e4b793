import java.util.ArrayList;
import java.util.List;
import java.util.regex.Matcher;
import java.util.regex.Pattern;

/** A score, read from its text by cutting it into tokens first, and asked note by note. */
final class PlainScore {
    final int n;
    final List<String> tokens = new ArrayList<>();
    final List<Integer> places = new ArrayList<>();
    final List<Character> letters = new ArrayList<>();
    final List<List<Integer>> rows = new ArrayList<>();
    final List<int[]> voices = new ArrayList<>();
    int at = 0;
    int fault = 0;
    int place = -1;

    PlainScore(int n, String text) {
        this.n = n;
        Matcher m = Pattern.compile("[A-Za-z]+|[0-9]+|[^ \n]").matcher(text);
        while (m.find()) {
            tokens.add(m.group());
            places.add(m.start());
        }
        tokens.add("");
        places.add(text.length());
        while (fault == 0 && now("row")) {
            row();
        }
        while (fault == 0 && now("voice")) {
            voice();
        }
        need(now(""), 1);
    }

    private boolean now(String pattern) {
        return tokens.get(at).matches(pattern);
    }

    private boolean need(boolean held, int otherwise) {
        if (!held && fault == 0) {
            fault = otherwise;
            place = places.get(at);
        }
        return fault == 0;
    }

    private void row() {
        if (!need(rows.size() < 6, 4)) {
            return;
        }
        at++;
        if (!need(now("[a-z]"), 1) || !need(!letters.contains(tokens.get(at).charAt(0)), 2)) {
            return;
        }
        letters.add(tokens.get(at++).charAt(0));
        if (!need(now("="), 1)) {
            return;
        }
        at++;
        List<Integer> notes = new ArrayList<>();
        do {
            if (!need(now("[0-9]{1,2}"), 1)) {
                return;
            }
            int note = Integer.parseInt(tokens.get(at));
            if (!need(note < n && !notes.contains(note), 3)) {
                return;
            }
            notes.add(note);
            at++;
        } while (!now(";"));
        if (need(notes.size() == n, 3)) {
            rows.add(notes);
            at++;
        }
    }

    private void voice() {
        if (!need(voices.size() < 8, 4)) {
            return;
        }
        at++;
        if (!need(now("[a-z]"), 1) || !need(letters.contains(tokens.get(at).charAt(0)), 2)) {
            return;
        }
        int row = letters.indexOf(tokens.get(at++).charAt(0));
        if (!need(now("[piru]"), 1)) {
            return;
        }
        int kind = "piru".indexOf(tokens.get(at++));
        if (!need(now("[0-9]{1,2}"), 1) || !need(Integer.parseInt(tokens.get(at)) < n, 3)) {
            return;
        }
        int t = Integer.parseInt(tokens.get(at++));
        if (!need(now("at"), 1)) {
            return;
        }
        at++;
        if (!need(now("[0-9]{1,2}"), 1) || !need(Integer.parseInt(tokens.get(at)) <= 40, 3)) {
            return;
        }
        int begin = Integer.parseInt(tokens.get(at++));
        if (need(now(";"), 1)) {
            voices.add(new int[] {row, kind, t, begin});
            at++;
        }
    }

    int sung(int v, int beat) {
        int[] one = voices.get(v);
        int i = beat - one[3];
        if (i < 0 || i >= n) {
            return -1;
        }
        int note = rows.get(one[0]).get(one[1] < 2 ? i : n - 1 - i);
        return Math.floorMod(one[1] % 2 == 0 ? note + one[2] : one[2] - note, n);
    }

    int clashes(int v) {
        int count = 0;
        for (int u = 0; u < voices.size(); u++) {
            for (int beat = 0; u != v && beat < 60; beat++) {
                count += sung(v, beat) >= 0 && sung(v, beat) == sung(u, beat) ? 1 : 0;
            }
        }
        return count;
    }

    String written() {
        StringBuilder made = new StringBuilder();
        for (int r = 0; r < rows.size(); r++) {
            made.append("row ").append(letters.get(r)).append(" =");
            for (int note : rows.get(r)) {
                made.append(' ').append(note);
            }
            made.append(" ;\n");
        }
        for (int[] one : voices) {
            made.append("voice ").append(letters.get(one[0])).append(' ').append("piru".charAt(one[1]));
            made.append(' ').append(one[2]).append(" at ").append(one[3]).append(" ;\n");
        }
        return made.toString();
    }
}
