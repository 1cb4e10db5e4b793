import java.util.ArrayList;
import java.util.Collections;
import java.util.HashMap;
import java.util.HashSet;
import java.util.List;
import java.util.Map;
import java.util.Set;
import java.util.TreeSet;

/** The whole house as plainly as the document tells it, with its state: all is counted out over lists and sets. */
final class PlainHouse {
    private static final Map<Integer, int[]> NAMES = new HashMap<>();
    private static final Map<Integer, List<List<Integer>>> FULL = new HashMap<>();

    private int n = 12;
    private final List<List<Integer>> slots = new ArrayList<>(Collections.nCopies(6, null));
    private PlainScore current = new PlainScore(12, "");
    private int fault = 0;
    private int place = -1;
    private String tape = "";
    private String written = "";

    int size() {
        return n;
    }

    private static boolean among(int value, int least, int most) {
        return value >= least && value <= most;
    }

    private boolean isSet(int set) {
        return among(set, 0, (1 << n) - 1);
    }

    private static int countOf(int set) {
        return Integer.bitCount(set);
    }

    private boolean hasRow(int s) {
        return among(s, 0, 5) && slots.get(s) != null;
    }

    private boolean hasVoice(int v) {
        return among(v, 0, current.voices.size() - 1);
    }

    private static int[] names(int n, int group) {
        return NAMES.computeIfAbsent(3 * n + group, any -> {
            int[] made = new int[1 << n];
            for (int set = 0; set < made.length; set++) {
                made[set] = Collections.min(OctaveTest.allImages(n, group, set));
            }
            return made;
        });
    }

    private static List<Integer> namesOfSize(int n, int group, int k) {
        TreeSet<Integer> found = new TreeSet<>();
        for (int name : names(n, group)) {
            if (countOf(name) == k) {
                found.add(name);
            }
        }
        return new ArrayList<>(found);
    }

    // ---- the octave

    boolean octave(int asked) {
        if (!among(asked, 3, 12)) {
            return false;
        }
        if (asked != n) {
            n = asked;
            Collections.fill(slots, null);
            current = new PlainScore(n, "");
        }
        return true;
    }

    int image(int set, int m, int t) {
        boolean can = isSet(set) && OctaveTest.factors(n, 2).contains(m) && among(t, 0, n - 1);
        return can ? OctaveTest.plainImage(n, set, m, t) : -1;
    }

    int name(int group, int set) {
        return among(group, 0, 2) && isSet(set) ? names(n, group)[set] : -1;
    }

    int own(int group, int set, int what) {
        if (!among(group, 0, 2) || !isSet(set) || !among(what, 0, 2)) {
            return -1;
        }
        List<Integer> all = OctaveTest.allImages(n, group, set);
        int[] answers = {Collections.frequency(all, set), new HashSet<>(all).size(), all.size()};
        return answers[what];
    }

    int classes(int group, int k) {
        return among(group, 0, 2) && among(k, 0, n) ? namesOfSize(n, group, k).size() : -1;
    }

    int nameOf(int group, int k, int i) {
        return among(i, 0, classes(group, k) - 1) ? namesOfSize(n, group, k).get(i) : -1;
    }

    int interval(int set, int d) {
        return isSet(set) && among(d, 1, n / 2) ? OctaveTest.intervalsOf(n, set).get(d - 1) : -1;
    }

    int twin(int set) {
        if (!isSet(set)) {
            return -1;
        }
        for (int name : namesOfSize(n, 1, countOf(set))) {
            boolean alike = OctaveTest.intervalsOf(n, name).equals(OctaveTest.intervalsOf(n, set));
            if (alike && name != names(n, 1)[set]) {
                return name;
            }
        }
        return -1;
    }

    int within(int group, int a, int b) {
        if (!among(group, 0, 2) || !isSet(a) || !isSet(b)) {
            return -1;
        }
        Set<Integer> images = new HashSet<>(OctaveTest.allImages(n, group, a));
        images.removeIf(image -> (image | b) != b);
        return images.size();
    }

    int lead(int a, int b, int what) {
        if (!isSet(a) || !isSet(b) || countOf(a) != countOf(b) || !among(what, 0, 1 + countOf(a))) {
            return -1;
        }
        OctaveTest.Pairings all = new OctaveTest.Pairings(n, a, b);
        return what == 0 ? all.best : what == 1 ? all.count : all.first.get(what - 2);
    }

    int road(int a, int b) {
        return isSet(a) && isSet(b) && countOf(a) == countOf(b) ? OctaveTest.plainRoad(n, a, b) : -1;
    }

    // ---- rows

    boolean row(int s, long notes) {
        List<Integer> made = new ArrayList<>();
        for (int i = 0; i < n; i++) {
            made.add((int) (notes >> 4 * i & 15));
        }
        boolean can = among(s, 0, 5) && new HashSet<>(made).size() == n && Collections.max(made) < n;
        if (can) {
            slots.set(s, made);
        }
        return can;
    }

    int form(int s, int kind, int t, int i) {
        boolean can = hasRow(s) && among(kind, 0, 3) && among(t, 0, n - 1) && among(i, 0, n - 1);
        return can ? RowsTest.plainForm(slots.get(s), kind, t).get(i) : -1;
    }

    int about(int s, int what) {
        if (!hasRow(s) || !among(what, 0, 2)) {
            return -1;
        }
        List<List<Integer>> forms = new ArrayList<>();
        for (int i = 0; i < 4 * n; i++) {
            forms.add(RowsTest.plainForm(slots.get(s), i / n, i % n));
        }
        int full = RowsTest.plainFull(slots.get(s)) ? 1 : 0;
        int[] answers = {Collections.frequency(forms, slots.get(s)), full, new HashSet<>(forms).size()};
        return answers[what];
    }

    int partners(int s, int kind) {
        if (!hasRow(s) || !among(kind, 0, 3) || n % 2 != 0) {
            return -1;
        }
        int found = 0;
        for (int t = 0; t < n; t++) {
            List<Integer> half = RowsTest.plainForm(slots.get(s), kind, t).subList(0, n / 2);
            if (Collections.disjoint(half, slots.get(s).subList(0, n / 2))) {
                found |= 1 << t;
            }
        }
        return found;
    }

    int split(int s, int d) {
        if (!hasRow(s) || !among(d, 1, n) || n % d != 0) {
            return -1;
        }
        Set<Integer> found = new HashSet<>();
        for (int from = 0; from < n; from += d) {
            int set = 0;
            for (int note : slots.get(s).subList(from, from + d)) {
                set |= 1 << note;
            }
            found.add(names(n, 1)[set]);
        }
        return found.size() == 1 ? 1 : 0;
    }

    private List<List<Integer>> fullRows() {
        return FULL.computeIfAbsent(n, any -> {
            List<List<Integer>> found = new ArrayList<>();
            RowsTest.listFull(n, new ArrayList<>(List.of(0)), new HashSet<>(), found);
            return found;
        });
    }

    int full() {
        return fullRows().size();
    }

    boolean pick(int s, int k) {
        boolean can = among(s, 0, 5) && among(k, 0, full() - 1);
        if (can) {
            slots.set(s, fullRows().get(k));
        }
        return can;
    }

    int rank(int s) {
        return hasRow(s) ? fullRows().indexOf(slots.get(s)) : -1;
    }

    // ---- rounds

    private static boolean isRound(int c, int set) {
        return among(c, 2, 24) && among(set, 1, (1 << c) - 1);
    }

    /** Each beat, rising, is an entry or is none; too few entries left end a try. */
    private static void enter(int c, int motif, int beat, int entries, List<Integer> found) {
        int due = c / countOf(motif);
        if (countOf(entries) + c - beat < due) {
            return;
        }
        if (beat == c) {
            if (RoundsTest.fillsRound(c, motif, entries)) {
                found.add(entries);
            }
            return;
        }
        enter(c, motif, beat + 1, entries, found);
        int placed = OctaveTest.plainImage(c, motif, 1, beat);
        for (int entry = 0; entry < beat; entry++) {
            if ((entries & 1 << entry) != 0 && (OctaveTest.plainImage(c, motif, 1, entry) & placed) != 0) {
                return;
            }
        }
        enter(c, motif, beat + 1, entries | 1 << beat, found);
    }

    private static List<Integer> allFills(int c, int motif) {
        List<Integer> found = new ArrayList<>();
        if (c % countOf(motif) == 0) {
            enter(c, motif, 0, 0, found);
        }
        Collections.sort(found);
        return found;
    }

    int fills(int c, int motif) {
        return isRound(c, motif) ? allFills(c, motif).size() : -1;
    }

    int fill(int c, int motif, int k) {
        if (!isRound(c, motif)) {
            return -1;
        }
        List<Integer> all = allFills(c, motif);
        return among(k, 0, all.size() - 1) ? all.get(k) : -1;
    }

    int pure(int c, int motif) {
        if (!isRound(c, motif)) {
            return -1;
        }
        List<Integer> all = allFills(c, motif);
        all.removeIf(entries -> period(c, motif) != c || period(c, entries) != c);
        return all.size();
    }

    int period(int c, int set) {
        return isRound(c, set) ? RoundsTest.plainPeriod(c, set) : -1;
    }

    // ---- scores

    int feed(int a, int b, int c, int d, int e) {
        if (tape.length() > 780) {
            return -1;
        }
        StringBuilder more = new StringBuilder();
        for (int four : new int[] {a, b, c, d, e}) {
            for (int shift = 24; shift >= 0; shift -= 8) {
                more.append((char) (four >> shift & 255));
            }
        }
        tape += more;
        return tape.length();
    }

    int end(int asked) {
        if (!among(asked, 0, tape.length())) {
            return -1;
        }
        tape = tape.substring(0, asked);
        return asked;
    }

    int load() {
        PlainScore read = new PlainScore(n, tape);
        tape = "";
        fault = read.fault;
        place = read.place;
        if (fault != 0) {
            return -1;
        }
        current = read;
        return current.voices.size();
    }

    int fault(int what) {
        return what == 0 ? fault : what == 1 ? place : -1;
    }

    int score(int what) {
        if (!among(what, 0, 3)) {
            return -1;
        }
        int twice = 0;
        int beats = 0;
        for (int v = 0; v < current.voices.size(); v++) {
            twice += current.clashes(v);
            beats = Math.max(beats, current.voices.get(v)[3] + n);
        }
        return new int[] {current.rows.size(), current.voices.size(), twice / 2, beats}[what];
    }

    int voice(int v, int what) {
        if (!hasVoice(v) || !among(what, 0, 4)) {
            return -1;
        }
        return what == 4 ? current.clashes(v) : current.voices.get(v)[what];
    }

    int sings(int v, int beat) {
        return hasVoice(v) && among(beat, 0, 60) ? current.sung(v, beat) : -1;
    }

    int chord(int beat) {
        int set = 0;
        for (int v = 0; v < current.voices.size(); v++) {
            int note = sings(v, beat);
            set |= note == -1 ? 0 : 1 << note;
        }
        return set;
    }

    int fit(int v, int most) {
        if (!hasVoice(v) || !among(most, 0, 40)) {
            return -1;
        }
        List<Integer> clashes = new ArrayList<>();
        for (int begin = 0; begin <= most; begin++) {
            current.voices.get(v)[3] = begin;
            clashes.add(current.clashes(v));
        }
        int fewest = Collections.min(clashes);
        current.voices.get(v)[3] = clashes.indexOf(fewest);
        return fewest;
    }

    boolean keep(int v, int s) {
        boolean can = hasVoice(v) && among(s, 0, 5);
        if (can) {
            int[] one = current.voices.get(v);
            slots.set(s, RowsTest.plainForm(current.rows.get(one[0]), one[1], one[2]));
        }
        return can;
    }

    int write() {
        written = current.written();
        return written.length();
    }

    int out(int i) {
        return among(i, 0, written.length() - 1) ? written.charAt(i) : -1;
    }

    int take() {
        tape = written.substring(0, Math.min(800, written.length()));
        return tape.length();
    }
}
