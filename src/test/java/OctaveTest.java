import java.util.ArrayDeque;
import java.util.ArrayList;
import java.util.HashMap;
import java.util.List;
import java.util.Map;
import java.util.Random;
import java.util.TreeSet;

/** Promises 1 to 12 against plain counting over all acts, all pairings and all moves. */
public final class OctaveTest {
    private static final int[] STRANGE = {Integer.MIN_VALUE, -2, -1, 1 << 12, 1 << 20, Integer.MAX_VALUE};

    public static void main(String[] args) {
        newObject();
        octaves();
        for (int n = 3; n <= 12; n++) {
            ToneHouse x = new ToneHouse();
            Check.due("octave(" + n + ")", x.octave(n), true);
            images(x, n);
            namesAndClasses(x, n);
            intervalsAndTwins(x, n);
            inclusions(x, n);
            leadings(x, n);
            roads(x, n);
            wrongSets(x, n);
        }
        knownOnes();
        Check.finish();
    }

    private static void newObject() {
        ToneHouse x = new ToneHouse();
        Check.due("1: image(4095, 1, 11)", x.image(4095, 1, 11), 4095);
        Check.due("1: image(4096, 1, 0)", x.image(4096, 1, 0), -1);
        for (int s = 0; s < 6; s++) {
            Check.due("1: form(" + s + ", 0, 0, 0)", x.form(s, 0, 0, 0), -1);
        }
        for (int what = 0; what < 4; what++) {
            Check.due("1: score(" + what + ")", x.score(what), 0);
        }
        Check.due("1: end(1)", x.end(1), -1);
        Check.due("1: end(0)", x.end(0), 0);
        Check.due("1: out(0)", x.out(0), -1);
        Check.due("1: fault(0)", x.fault(0), 0);
        Check.due("1: fault(1)", x.fault(1), -1);
    }

    private static void octaves() {
        ToneHouse x = new ToneHouse();
        int[] none = {Integer.MIN_VALUE, -1, 0, 1, 2, 13, 14, Integer.MAX_VALUE};
        long identity = 0xBA9876543210L;
        x.row(3, identity);
        for (int n : none) {
            Check.due("2: octave(" + n + ")", x.octave(n), false);
            Check.due("2: form after octave(" + n + ")", x.form(3, 0, 0, 11), 11);
        }
        Check.due("2: octave(12) again", x.octave(12), true);
        Check.due("2: the same N empties nothing", x.form(3, 0, 0, 11), 11);
        Check.due("2: octave(3)", x.octave(3), true);
        Check.due("2: rows are gone", x.form(3, 0, 0, 0), -1);
        Check.due("2: image(7, 2, 2)", x.image(7, 2, 2), 7);
        Check.due("2: image(8, 1, 0)", x.image(8, 1, 0), -1);
        Check.due("2: octave(12)", x.octave(12), true);
        Check.due("2: rows stay gone", x.form(3, 0, 0, 0), -1);
    }

    private static int gcd(int a, int b) {
        return b == 0 ? a : gcd(b, a % b);
    }

    static List<Integer> factors(int n, int group) {
        List<Integer> found = new ArrayList<>();
        for (int m = 1; m < n; m++) {
            if (m == 1 || group >= 1 && m == n - 1 || group == 2 && gcd(m, n) == 1) {
                found.add(m);
            }
        }
        return found;
    }

    static int plainImage(int n, int set, int m, int t) {
        int made = 0;
        for (int x = 0; x < n; x++) {
            if ((set & 1 << x) != 0) {
                made |= 1 << (m * x + t) % n;
            }
        }
        return made;
    }

    static List<Integer> allImages(int n, int group, int set) {
        List<Integer> made = new ArrayList<>();
        for (int m : factors(n, group)) {
            for (int t = 0; t < n; t++) {
                made.add(plainImage(n, set, m, t));
            }
        }
        return made;
    }

    private static void images(ToneHouse x, int n) {
        Random random = new Random(n);
        for (int m = -1; m <= n + 1; m++) {
            for (int t = -1; t <= n; t++) {
                int set = random.nextInt(1 << n);
                boolean can = m >= 1 && m < n && gcd(m, n) == 1 && t >= 0 && t < n;
                int want = can ? plainImage(n, set, m, t) : -1;
                Check.due("3: image(" + set + ", " + m + ", " + t + ") of " + n, x.image(set, m, t), want);
            }
        }
    }

    private static void namesAndClasses(ToneHouse x, int n) {
        for (int group = 0; group < 3; group++) {
            List<TreeSet<Integer>> names = new ArrayList<>();
            for (int k = 0; k <= n; k++) {
                names.add(new TreeSet<>());
            }
            for (int set = 0; set < 1 << n; set++) {
                List<Integer> all = allImages(n, group, set);
                TreeSet<Integer> unlike = new TreeSet<>(all);
                names.get(Integer.bitCount(set)).add(unlike.first());
                String about = group + ", " + set + " of " + n;
                Check.due("4: name " + about, x.name(group, set), unlike.first());
                if (set % 7 == 0 || n < 9) {
                    int same = 0;
                    for (int image : all) {
                        same += image == set ? 1 : 0;
                    }
                    Check.due("5: own 0 " + about, x.own(group, set, 0), same);
                    Check.due("5: own 1 " + about, x.own(group, set, 1), unlike.size());
                    Check.due("5: own 2 " + about, x.own(group, set, 2), all.size());
                }
            }
            for (int k = 0; k <= n; k++) {
                Check.due("6: classes " + group + ", " + k + " of " + n, x.classes(group, k), names.get(k).size());
                int i = 0;
                for (int name : names.get(k)) {
                    Check.due("7: nameOf " + group + ", " + k + ", " + i + " of " + n, x.nameOf(group, k, i), name);
                    i++;
                }
                Check.due("7: nameOf behind the last", x.nameOf(group, k, i), -1);
                Check.due("7: nameOf ahead of the first", x.nameOf(group, k, -1), -1);
                Check.due("7: nameOf far behind", x.nameOf(group, k, Integer.MAX_VALUE), -1);
            }
        }
    }

    private static int apart(int n, int x, int y) {
        int d = Math.abs(x - y);
        return Math.min(d, n - d);
    }

    private static List<Integer> notes(int n, int set) {
        List<Integer> found = new ArrayList<>();
        for (int x = 0; x < n; x++) {
            if ((set & 1 << x) != 0) {
                found.add(x);
            }
        }
        return found;
    }

    static List<Integer> intervalsOf(int n, int set) {
        int[] counts = new int[n / 2 + 1];
        List<Integer> all = notes(n, set);
        for (int i = 0; i < all.size(); i++) {
            for (int j = 0; j < i; j++) {
                counts[apart(n, all.get(i), all.get(j))]++;
            }
        }
        List<Integer> found = new ArrayList<>();
        for (int d = 1; d <= n / 2; d++) {
            found.add(counts[d]);
        }
        return found;
    }

    private static void intervalsAndTwins(ToneHouse x, int n) {
        Map<List<Integer>, TreeSet<Integer>> families = new HashMap<>();
        List<List<Integer>> keys = new ArrayList<>();
        int[] names = new int[1 << n];
        for (int set = 0; set < 1 << n; set++) {
            List<Integer> key = intervalsOf(n, set);
            for (int d = 1; d <= n / 2; d++) {
                Check.due("8: interval " + set + ", " + d + " of " + n, x.interval(set, d), key.get(d - 1));
            }
            Check.due("8: interval too near", x.interval(set, 0), -1);
            Check.due("8: interval too far", x.interval(set, n / 2 + 1), -1);
            key.add(Integer.bitCount(set));
            keys.add(key);
            names[set] = new TreeSet<>(allImages(n, 1, set)).first();
            families.computeIfAbsent(key, any -> new TreeSet<>()).add(names[set]);
        }
        for (int set = 0; set < 1 << n; set++) {
            TreeSet<Integer> family = new TreeSet<>(families.get(keys.get(set)));
            family.remove(names[set]);
            Check.due("9: twin " + set + " of " + n, x.twin(set), family.isEmpty() ? -1 : family.first());
        }
    }

    private static void inclusions(ToneHouse x, int n) {
        Random random = new Random(100 + n);
        for (int round = 0; round < 300; round++) {
            int a = random.nextInt(1 << n) & random.nextInt(1 << n);
            int b = random.nextInt(1 << n) | random.nextInt(1 << n);
            for (int group = 0; group < 3; group++) {
                int count = 0;
                for (int image : new TreeSet<>(allImages(n, group, a))) {
                    count += (image | b) == b ? 1 : 0;
                }
                Check.due("10: within " + group + ", " + a + ", " + b + " of " + n, x.within(group, a, b), count);
            }
        }
        Check.due("10: the empty set lies in the empty set", x.within(2, 0, 0), 1);
        Check.due("10: no note lies in the empty set", x.within(2, 1, 0), 0);
    }

    static final class Pairings {
        final int n;
        final List<Integer> from;
        final List<Integer> to;
        int best = Integer.MAX_VALUE;
        int count = 0;
        List<Integer> first = new ArrayList<>();

        Pairings(int n, int a, int b) {
            this.n = n;
            from = notes(n, a);
            to = notes(n, b);
            go(new ArrayList<>(), 0);
        }

        private void go(List<Integer> chosen, int sum) {
            if (chosen.size() == from.size()) {
                if (sum < best) {
                    best = sum;
                    count = 0;
                    first = new ArrayList<>(chosen);
                }
                if (sum == best) {
                    count++;
                }
                return;
            }
            for (int y : to) {
                if (!chosen.contains(y)) {
                    int d = apart(n, from.get(chosen.size()), y);
                    chosen.add(y);
                    go(chosen, sum + d);
                    chosen.remove(chosen.size() - 1);
                }
            }
        }
    }

    private static void leadings(ToneHouse x, int n) {
        Random random = new Random(200 + n);
        int rounds = n <= 5 ? 1 << 2 * n : 400;
        for (int round = 0; round < rounds; round++) {
            int a = n <= 5 ? round >> n : random.nextInt(1 << n);
            int b = n <= 5 ? round & (1 << n) - 1 : random.nextInt(1 << n);
            String about = a + ", " + b + " of " + n;
            if (Integer.bitCount(a) != Integer.bitCount(b)) {
                for (int what = 0; what < 3; what++) {
                    Check.due("11: lead of unlike sizes " + about, x.lead(a, b, what), -1);
                }
                continue;
            }
            if (Integer.bitCount(a) > 7) {
                continue;
            }
            Pairings want = new Pairings(n, a, b);
            Check.due("11: lead 0 " + about, x.lead(a, b, 0), want.best);
            Check.due("11: lead 1 " + about, x.lead(a, b, 1), want.count);
            for (int i = 0; i < want.first.size(); i++) {
                Check.due("11: lead " + (2 + i) + " " + about, x.lead(a, b, 2 + i), want.first.get(i));
            }
            Check.due("11: lead behind the last " + about, x.lead(a, b, 2 + want.first.size()), -1);
            Check.due("11: lead -1 " + about, x.lead(a, b, -1), -1);
            Check.due("11: lead MAX " + about, x.lead(a, b, Integer.MAX_VALUE), -1);
        }
        int all = (1 << n) - 1;
        Check.due("11: all notes stay", x.lead(all, all, 0), 0);
        for (int i = 0; i < n; i++) {
            Check.due("11: note " + i + " stays", x.lead(all, all, 2 + i), i);
        }
    }

    static int plainRoad(int n, int a, int b) {
        TreeSet<Integer> goals = new TreeSet<>(allImages(n, 1, b));
        Map<Integer, Integer> moves = new HashMap<>();
        ArrayDeque<Integer> queue = new ArrayDeque<>();
        moves.put(a, 0);
        queue.add(a);
        while (!queue.isEmpty()) {
            int set = queue.remove();
            if (goals.contains(set)) {
                return moves.get(set);
            }
            for (int note : notes(n, set)) {
                for (int step : new int[] {1, n - 1}) {
                    int y = (note + step) % n;
                    int moved = set & ~(1 << note) | 1 << y;
                    if ((set & 1 << y) == 0 && !moves.containsKey(moved)) {
                        moves.put(moved, moves.get(set) + 1);
                        queue.add(moved);
                    }
                }
            }
        }
        return -1;
    }

    private static void roads(ToneHouse x, int n) {
        Random random = new Random(300 + n);
        int rounds = n <= 5 ? 1 << 2 * n : 400;
        for (int round = 0; round < rounds; round++) {
            int a = n <= 5 ? round >> n : random.nextInt(1 << n);
            int b = n <= 5 ? round & (1 << n) - 1 : random.nextInt(1 << n);
            boolean can = Integer.bitCount(a) == Integer.bitCount(b);
            Check.due("12: road " + a + ", " + b + " of " + n, x.road(a, b), can ? plainRoad(n, a, b) : -1);
        }
        int all = (1 << n) - 1;
        Check.due("12: road of all notes", x.road(all, all), 0);
        Check.due("12: road of none", x.road(0, 0), 0);
    }

    private static void wrongSets(ToneHouse x, int n) {
        List<Integer> sets = new ArrayList<>();
        for (int set : STRANGE) {
            sets.add(set);
        }
        sets.add(1 << n);
        for (int set : sets) {
            Check.due("3: image(" + set + ")", x.image(set, 1, 0), -1);
            Check.due("8: interval(" + set + ")", x.interval(set, 1), -1);
            Check.due("9: twin(" + set + ")", x.twin(set), -1);
            Check.due("11: lead from " + set, x.lead(set, 1, 0), -1);
            Check.due("11: lead to " + set, x.lead(1, set, 0), -1);
            Check.due("12: road from " + set, x.road(set, 1), -1);
            Check.due("12: road to " + set, x.road(1, set), -1);
            for (int group = 0; group < 3; group++) {
                Check.due("4: name(" + set + ")", x.name(group, set), -1);
                Check.due("10: within(" + set + ", 1)", x.within(group, set, 1), -1);
                Check.due("10: within(1, " + set + ")", x.within(group, 1, set), -1);
                for (int what = 0; what < 3; what++) {
                    Check.due("5: own(" + set + ")", x.own(group, set, what), -1);
                }
            }
        }
        for (int bad : new int[] {Integer.MIN_VALUE, -1, 3, Integer.MAX_VALUE}) {
            Check.due("4: name of group " + bad, x.name(bad, 1), -1);
            Check.due("5: own of group " + bad, x.own(bad, 1, 2), -1);
            Check.due("5: own what " + bad, x.own(1, 1, bad), -1);
            Check.due("6: classes of group " + bad, x.classes(bad, 1), -1);
            Check.due("7: nameOf of group " + bad, x.nameOf(bad, 1, 0), -1);
            Check.due("10: within of group " + bad, x.within(bad, 1, 1), -1);
        }
        for (int bad : new int[] {Integer.MIN_VALUE, -1, n + 1, Integer.MAX_VALUE}) {
            Check.due("6: classes of " + bad, x.classes(1, bad), -1);
            Check.due("7: nameOf of " + bad, x.nameOf(1, bad, 0), -1);
        }
    }

    private static void knownOnes() {
        ToneHouse x = new ToneHouse();
        Check.due("11: lead(4095, 4095, 1)", x.lead(4095, 4095, 1), 1);
        Check.due("11: lead(63, 4032, 0)", x.lead(63, 4032, 0), new Pairings(12, 63, 4032).best);
        Check.due("11: lead(63, 4032, 1)", x.lead(63, 4032, 1), new Pairings(12, 63, 4032).count);
        for (int[] pair : new int[][] {{0b110111011110, 0b101101111011}, {0b011111111100, 0b111111000111}}) {
            Pairings want = new Pairings(12, pair[0], pair[1]);
            Check.due("11: lead 0 of nine notes", x.lead(pair[0], pair[1], 0), want.best);
            Check.due("11: lead 1 of nine notes", x.lead(pair[0], pair[1], 1), want.count);
            for (int i = 0; i < 9; i++) {
                Check.due("11: lead " + (2 + i) + " of nine notes", x.lead(pair[0], pair[1], 2 + i), want.first.get(i));
            }
        }
        int[] ofMirrors = {1, 1, 6, 12, 29, 38, 50, 38, 29, 12, 6, 1, 1};
        for (int k = 0; k <= 12; k++) {
            Check.due("6: classes(1, " + k + ")", x.classes(1, k), ofMirrors[k]);
        }
    }
}
