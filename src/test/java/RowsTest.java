import java.util.ArrayList;
import java.util.Collections;
import java.util.HashSet;
import java.util.List;
import java.util.Random;
import java.util.Set;

/** Promises 13 to 20 against rows as plain lists. */
public final class RowsTest {
    private static final int[] FULL_COUNTS = {0, 0, 0, 0, 2, 0, 4, 0, 24, 0, 288, 0, 3856};

    public static void main(String[] args) {
        for (int n = 3; n <= 12; n++) {
            ToneHouse x = new ToneHouse();
            x.octave(n);
            wrongRows(x, n);
            Random random = new Random(n);
            for (int round = 0; round < 60; round++) {
                List<Integer> notes = identity(n);
                if (round > 0) {
                    Collections.shuffle(notes, random);
                }
                oneRow(x, round % 6, notes);
            }
            mirroredRow(x, n);
            emptySlots(n);
            fullRows(x, n);
        }
        manyOctaves();
        Check.finish();
    }

    private static List<Integer> identity(int n) {
        List<Integer> notes = new ArrayList<>();
        for (int i = 0; i < n; i++) {
            notes.add(i);
        }
        return notes;
    }

    static long packed(List<Integer> notes) {
        long made = 0L;
        for (int i = 0; i < notes.size(); i++) {
            made |= (long) notes.get(i) << 4 * i;
        }
        return made;
    }

    static List<Integer> plainForm(List<Integer> notes, int kind, int t) {
        int n = notes.size();
        List<Integer> made = new ArrayList<>();
        for (int x : notes) {
            made.add(Math.floorMod(kind % 2 == 0 ? x + t : t - x, n));
        }
        if (kind >= 2) {
            Collections.reverse(made);
        }
        return made;
    }

    private static List<Integer> rowIn(ToneHouse x, int s, int n) {
        List<Integer> notes = new ArrayList<>();
        for (int i = 0; i < n; i++) {
            notes.add(x.form(s, 0, 0, i));
        }
        return notes;
    }

    static boolean plainFull(List<Integer> notes) {
        Set<Integer> gaps = new HashSet<>();
        for (int i = 1; i < notes.size(); i++) {
            gaps.add(Math.floorMod(notes.get(i) - notes.get(i - 1), notes.size()));
        }
        return gaps.size() == notes.size() - 1;
    }

    private static void wrongRows(ToneHouse x, int n) {
        long good = packed(identity(n));
        Check.due("13: row(2)", x.row(2, good), true);
        List<Integer> twice = identity(n);
        twice.set(n - 1, 0);
        List<Integer> tooHigh = identity(n);
        tooHigh.set(0, n);
        for (long bad : new long[] {packed(twice), packed(tooHigh), 0L, -1L, Long.MIN_VALUE, Long.MAX_VALUE}) {
            Check.due("13: row(2, " + bad + ") of " + n, x.row(2, bad), false);
            Check.due("13: the row stays", x.form(2, 0, 0, n - 1), n - 1);
        }
        for (int s : new int[] {Integer.MIN_VALUE, -1, 6, Integer.MAX_VALUE}) {
            Check.due("13: row(" + s + ")", x.row(s, good), false);
            Check.due("14: form(" + s + ")", x.form(s, 0, 0, 0), -1);
            Check.due("15: about(" + s + ")", x.about(s, 0), -1);
            Check.due("16: partners(" + s + ")", x.partners(s, 0), -1);
            Check.due("17: split(" + s + ")", x.split(s, 1), -1);
            Check.due("19: pick(" + s + ")", x.pick(s, 0), false);
            Check.due("20: rank(" + s + ")", x.rank(s), -1);
        }
        long behind = good | -1L << 4 * n;
        Check.due("13: what is behind N does not count", x.row(1, behind), true);
        Check.due("13: nor in a form", x.form(1, 0, 0, n - 1), n - 1);
        Check.due("15: nor among the forms", x.about(1, 0), x.about(2, 0));
        Check.due("15: nor for its number", x.rank(1), x.rank(2));
    }

    private static void oneRow(ToneHouse x, int s, List<Integer> notes) {
        int n = notes.size();
        String about = " of " + notes;
        Check.due("13: row" + about, x.row(s, packed(notes)), true);
        int same = 0;
        Set<List<Integer>> unlike = new HashSet<>();
        for (int kind = 0; kind < 4; kind++) {
            int partners = 0;
            for (int t = 0; t < n; t++) {
                List<Integer> form = plainForm(notes, kind, t);
                for (int i = 0; i < n; i++) {
                    Check.due("14: form " + kind + ", " + t + ", " + i + about, x.form(s, kind, t, i), form.get(i));
                }
                same += form.equals(notes) ? 1 : 0;
                unlike.add(form);
                if (Collections.disjoint(form.subList(0, n / 2), notes.subList(0, n / 2))) {
                    partners |= 1 << t;
                }
            }
            Check.due("16: partners " + kind + about, x.partners(s, kind), n % 2 == 0 ? partners : -1);
        }
        Check.due("15: about 0" + about, x.about(s, 0), same);
        Check.due("15: about 1" + about, x.about(s, 1), plainFull(notes) ? 1 : 0);
        Check.due("15: about 2" + about, x.about(s, 2), unlike.size());
        for (int d = 1; d <= n; d++) {
            Check.due("17: split " + d + about, x.split(s, d), plainSplit(x, notes, d));
        }
        wrongArguments(x, s, n);
    }

    private static int plainSplit(ToneHouse x, List<Integer> notes, int d) {
        int n = notes.size();
        if (n % d != 0) {
            return -1;
        }
        Set<Integer> names = new HashSet<>();
        for (int from = 0; from < n; from += d) {
            int set = 0;
            for (int note : notes.subList(from, from + d)) {
                set |= 1 << note;
            }
            names.add(x.name(1, set));
        }
        return names.size() == 1 ? 1 : 0;
    }

    private static void wrongArguments(ToneHouse x, int s, int n) {
        for (int bad : new int[] {Integer.MIN_VALUE, -1, n, Integer.MAX_VALUE}) {
            Check.due("14: form t " + bad, x.form(s, 0, bad, 0), -1);
            Check.due("14: form i " + bad, x.form(s, 0, 0, bad), -1);
        }
        for (int bad : new int[] {Integer.MIN_VALUE, -1, 4, Integer.MAX_VALUE}) {
            Check.due("14: form kind " + bad, x.form(s, bad, 0, 0), -1);
            Check.due("15: about what " + bad, x.about(s, bad), -1);
            Check.due("16: partners kind " + bad, x.partners(s, bad), -1);
        }
        Check.due("15: about what 3", x.about(s, 3), -1);
        for (int bad : new int[] {Integer.MIN_VALUE, -n, -1, 0, n + 1, 2 * n, Integer.MAX_VALUE}) {
            Check.due("17: split d " + bad, x.split(s, bad), -1);
        }
    }

    private static void mirroredRow(ToneHouse x, int n) {
        x.row(0, packed(identity(n)));
        Check.due("15: the rising row mirrored backwards is itself", x.about(0, 0), 2);
        Check.due("15: so it has half the forms", x.about(0, 2), 2 * n);
        Check.due("20: it is not full", x.rank(0), -1);
    }

    private static void emptySlots(int n) {
        ToneHouse x = new ToneHouse();
        x.octave(n);
        for (int s = 0; s < 6; s++) {
            Check.due("14: no row", x.form(s, 0, 0, 0), -1);
            for (int what = 0; what < 3; what++) {
                Check.due("15: no row", x.about(s, what), -1);
            }
            Check.due("16: no row", x.partners(s, 0), -1);
            Check.due("17: no row", x.split(s, 1), -1);
            Check.due("20: no row", x.rank(s), -1);
        }
    }

    static void listFull(int n, List<Integer> begun, Set<Integer> gaps, List<List<Integer>> found) {
        if (begun.size() == n) {
            found.add(new ArrayList<>(begun));
            return;
        }
        for (int note = 1; note < n; note++) {
            int gap = Math.floorMod(note - begun.get(begun.size() - 1), n);
            if (!begun.contains(note) && gaps.add(gap)) {
                begun.add(note);
                listFull(n, begun, gaps, found);
                begun.remove(begun.size() - 1);
                gaps.remove(gap);
            }
        }
    }

    private static void fullRows(ToneHouse x, int n) {
        List<List<Integer>> want = new ArrayList<>();
        listFull(n, new ArrayList<>(List.of(0)), new HashSet<>(), want);
        Check.due("18: full() of " + n, x.full(), want.size());
        Check.due("18: full() of " + n + " is known", x.full(), FULL_COUNTS[n]);
        for (int k = 0; k < want.size(); k++) {
            Check.due("19: pick " + k + " of " + n, x.pick(k % 6, k), true);
            List<Integer> got = rowIn(x, k % 6, n);
            Check.due("19: row " + k + " is " + got + ", due " + want.get(k), got.equals(want.get(k)), true);
            Check.due("20: rank of " + k, x.rank(k % 6), k);
            Check.due("15: it is full", x.about(k % 6, 1), 1);
        }
        x.row(5, packed(identity(n)));
        for (int bad : new int[] {Integer.MIN_VALUE, -1, want.size(), Integer.MAX_VALUE}) {
            Check.due("19: pick " + bad, x.pick(5, bad), false);
            Check.due("19: the row stays", x.form(5, 0, 0, n - 1), n - 1);
        }
        if (!want.isEmpty()) {
            x.row(4, packed(plainForm(want.get(0), 0, 1)));
            Check.due("15: a full row may begin elsewhere", x.about(4, 1), 1);
            Check.due("20: but has no number then", x.rank(4), -1);
        }
    }

    private static void manyOctaves() {
        ToneHouse x = new ToneHouse();
        for (int n : new int[] {10, 12, 3, 8, 12, 4, 10, 6, 5, 4, 12}) {
            x.octave(n);
            Check.due("18: full() of " + n + " among others", x.full(), FULL_COUNTS[n]);
            if (FULL_COUNTS[n] > 0) {
                Check.due("19: the last of " + n, x.pick(0, FULL_COUNTS[n] - 1), true);
                Check.due("20: its number of " + n, x.rank(0), FULL_COUNTS[n] - 1);
                Check.due("19: the last of " + n + " is full", plainFull(rowIn(x, 0, n)), true);
            }
        }
    }
}
