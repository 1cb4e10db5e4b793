import java.util.ArrayList;
import java.util.List;
import java.util.Random;

/** Promises 21 to 24 against all sets of beats, tried one by one. */
public final class RoundsTest {
    public static void main(String[] args) {
        ToneHouse x = new ToneHouse();
        for (int c = 2; c <= 9; c++) {
            for (int motif = 1; motif < 1 << c; motif++) {
                oneMotif(x, c, motif);
            }
        }
        Random random = new Random(5);
        for (int round = 0; round < 60; round++) {
            int c = 10 + random.nextInt(5);
            oneMotif(x, c, 1 + random.nextInt((1 << c) - 1));
        }
        for (int motif : new int[] {1, 3, 5, 7, 9, 65, 15, 51, 21, 273, 585, 819, 1365, 4095, 2048}) {
            oneMotif(x, 12, motif);
        }
        greatRounds(x);
        kept(x);
        periods(x);
        wrongOnes(x);
        Check.finish();
    }

    static boolean fillsRound(int c, int motif, int entries) {
        int[] times = new int[c];
        for (int a = 0; a < c; a++) {
            for (int b = 0; b < c; b++) {
                if ((motif & 1 << a) != 0 && (entries & 1 << b) != 0) {
                    times[(a + b) % c]++;
                }
            }
        }
        for (int count : times) {
            if (count != 1) {
                return false;
            }
        }
        return true;
    }

    static int plainPeriod(int c, int set) {
        for (int p = 1; p <= c; p++) {
            int later = 0;
            for (int beat = 0; beat < c; beat++) {
                if ((set & 1 << beat) != 0) {
                    later |= 1 << (beat + p) % c;
                }
            }
            if (later == set) {
                return p;
            }
        }
        return -1;
    }

    private static void oneMotif(ToneHouse x, int c, int motif) {
        List<Integer> want = new ArrayList<>();
        int pures = 0;
        for (int entries = 1; entries < 1 << c; entries++) {
            if (Integer.bitCount(entries) * Integer.bitCount(motif) == c && fillsRound(c, motif, entries)) {
                want.add(entries);
                if (plainPeriod(c, motif) == c && plainPeriod(c, entries) == c) {
                    pures++;
                }
            }
        }
        String about = c + ", " + motif;
        Check.due("21: fills " + about, x.fills(c, motif), want.size());
        for (int k = 0; k < want.size(); k++) {
            Check.due("22: fill " + about + ", " + k, x.fill(c, motif, k), want.get(k));
        }
        for (int bad : new int[] {Integer.MIN_VALUE, -1, want.size(), Integer.MAX_VALUE}) {
            Check.due("22: fill " + about + ", " + bad, x.fill(c, motif, bad), -1);
        }
        Check.due("23: pure " + about, x.pure(c, motif), pures);
        Check.due("24: period " + about, x.period(c, motif), plainPeriod(c, motif));
    }

    private static int spaced(int step, int count) {
        int set = 0;
        for (int i = 0; i < count; i++) {
            set |= 1 << step * i;
        }
        return set;
    }

    /** Evenly spaced motifs of m beats have m to the c / m fills, the most there are. */
    private static void greatRounds(ToneHouse x) {
        int[][] known = {{24, 2, 4096}, {24, 3, 6561}, {24, 4, 4096}, {24, 6, 1296}, {24, 24, 24}, {23, 23, 23},
            {22, 2, 2048}, {21, 3, 2187}, {20, 4, 1024}, {23, 1, 1}, {24, 1, 1}};
        for (int[] one : known) {
            int c = one[0];
            int motif = spaced(c / one[1], one[1]);
            Check.due("21: fills " + c + ", " + motif, x.fills(c, motif), one[2]);
            int before = 0;
            for (int k = 0; k < one[2]; k++) {
                int entries = x.fill(c, motif, k);
                boolean sound = entries > before && fillsRound(c, motif, entries);
                Check.due("22: fill " + c + ", " + motif + ", " + k + " rises and fills", sound, true);
                before = entries;
            }
            Check.due("22: none behind the last", x.fill(c, motif, one[2]), -1);
            Check.due("23: pure " + c + ", " + motif, x.pure(c, motif), 0);
        }
        Check.due("21: fills(24, 31)", x.fills(24, 31), 0);
        Check.due("21: fills(24, 7)", x.fills(24, 7), 3);
        Check.due("22: fill(24, 7, 2)", x.fill(24, 7, 2), 9586980);
    }

    private static void kept(ToneHouse x) {
        Check.due("22: fill(4, 5, 1)", x.fill(4, 5, 1), 6);
        Check.due("22: fill(5, 1, 0)", x.fill(5, 1, 0), 31);
        Check.due("22: fill(4, 5, 2)", x.fill(4, 5, 2), 9);
        Check.due("23: pure(4, 5)", x.pure(4, 5), 0);
        Check.due("21: fills(6, 5)", x.fills(6, 5), 0);
        Check.due("22: fill(4, 5, 3)", x.fill(4, 5, 3), 12);
        Check.due("22: fill(8, 5, 0)", x.fill(8, 5, 0), 51);
    }

    private static void periods(ToneHouse x) {
        Random random = new Random(7);
        for (int c = 2; c <= 24; c++) {
            Check.due("24: all beats of " + c, x.period(c, (1 << c) - 1), 1);
            Check.due("24: the last beat of " + c, x.period(c, 1 << c - 1), c);
            for (int p = 1; p <= c; p++) {
                int part = 1 + random.nextInt((1 << p) - 1);
                int set = 0;
                for (int i = 0; c % p == 0 && i < c / p; i++) {
                    set |= part << p * i;
                }
                int want = set == 0 ? -1 : plainPeriod(c, set);
                Check.due("24: period " + c + ", " + set, x.period(c, set), want);
            }
        }
    }

    private static void wrongOnes(ToneHouse x) {
        int[][] bad = {{1, 1}, {0, 1}, {-1, 1}, {25, 1}, {32, 1}, {33, 1}, {Integer.MIN_VALUE, 1},
            {Integer.MAX_VALUE, 1}, {4, 0}, {4, -1}, {4, 16}, {24, 1 << 24}, {24, -5}, {2, 4},
            {12, Integer.MIN_VALUE}, {12, Integer.MAX_VALUE}};
        for (int[] one : bad) {
            String about = one[0] + ", " + one[1];
            Check.due("21: fills " + about, x.fills(one[0], one[1]), -1);
            Check.due("22: fill " + about, x.fill(one[0], one[1], 0), -1);
            Check.due("23: pure " + about, x.pure(one[0], one[1]), -1);
            Check.due("24: period " + about, x.period(one[0], one[1]), -1);
        }
    }
}
