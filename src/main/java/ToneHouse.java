import java.util.Arrays;

/** Sets, rows, rounds and scores over an octave of equal steps, as the document of the project promises them. */
public final class ToneHouse {
    public static final int NONE = -1;

    private static final int LEAST_NOTES = 3;
    private static final int MOST_NOTES = 12;
    private static final int MOST_SETS = 4096;
    private static final int GROUPS = 3;
    private static final int MIRRORS = 1;
    private static final int ALL_ACTS = 2;
    private static final int KINDS = 4;
    private static final int SLOTS = 6;
    private static final int LEAST_BEATS = 2;
    private static final int MOST_BEATS = 24;
    private static final int MOST_ROWS = 6;
    private static final int MOST_VOICES = 8;
    private static final int LAST_BEGIN = 40;
    private static final int TAPE_BYTES = 800;
    private static final int FED_BYTES = 20;

    /** A row is kept as row() is given it, with nothing behind its N notes; no such number is below 0. */
    private static final long NO_ROW = -1L;

    private final Octave tones = new Octave();
    private final Leading leading = new Leading();
    private final Roads roads = new Roads();
    private final FullRows fullRows = new FullRows();
    private final Round round = new Round();
    private final long[] slots = new long[SLOTS];
    private final Reader reader = new Reader();
    private final ByteRow written = new ByteRow();
    private Score current = new Score();

    public ToneHouse() {
        Arrays.fill(slots, NO_ROW);
    }

    // ---- the octave

    public boolean octave(int n) {
        if (n < LEAST_NOTES || n > MOST_NOTES) {
            return false;
        }
        if (n != tones.size()) {
            tones.resize(n);
            Arrays.fill(slots, NO_ROW);
            current.clear();
        }
        return true;
    }

    public int image(int set, int m, int t) {
        if (!tones.hasSet(set) || !tones.hasFactor(ALL_ACTS, m) || !tones.hasNote(t)) {
            return NONE;
        }
        return turned(tones.multiplied(set, m), t, tones.size());
    }

    public int name(int group, int set) {
        if (!isGroup(group) || !tones.hasSet(set)) {
            return NONE;
        }
        return tones.leastImage(group, set);
    }

    public int own(int group, int set, int what) {
        if (!isGroup(group) || !tones.hasSet(set)) {
            return NONE;
        }
        switch (what) {
            case 0:
                return tones.actsInto(group, set, set);
            case 1:
                return tones.imagesInto(group, set, tones.allNotes());
            case 2:
                return tones.actsInto(group, set, tones.allNotes());
            default:
                return NONE;
        }
    }

    public int classes(int group, int k) {
        if (!isGroup(group) || k < 0 || k > tones.size()) {
            return NONE;
        }
        return tones.countNames(group, k);
    }

    public int nameOf(int group, int k, int i) {
        if (!isGroup(group) || k < 0 || k > tones.size() || i < 0) {
            return NONE;
        }
        return tones.findName(group, k, i);
    }

    public int interval(int set, int d) {
        if (!tones.hasSet(set) || d < 1 || d > tones.size() / 2) {
            return NONE;
        }
        return tones.pairsApart(set, d);
    }

    public int twin(int set) {
        return tones.hasSet(set) ? tones.leastTwin(set) : NONE;
    }

    public int within(int group, int a, int b) {
        if (!isGroup(group) || !tones.hasSet(a) || !tones.hasSet(b)) {
            return NONE;
        }
        return tones.imagesInto(group, a, b);
    }

    public int lead(int a, int b, int what) {
        if (!tones.areOfOneSize(a, b) || what < 0 || what >= 2 + Integer.bitCount(a)) {
            return NONE;
        }
        leading.solve(tones.size(), a, b);
        switch (what) {
            case 0:
                return leading.leastSum();
            case 1:
                return leading.leastCount();
            default:
                return leading.firstGoal(what - 2);
        }
    }

    public int road(int a, int b) {
        return tones.areOfOneSize(a, b) ? roads.fewestMoves(tones, a, b) : NONE;
    }

    // ---- rows

    public boolean row(int s, long notes) {
        int n = tones.size();
        long row = notes & ((1L << 4 * n) - 1);
        if (!isSlot(s) || !isRow(row, n)) {
            return false;
        }
        slots[s] = row;
        return true;
    }

    public int form(int s, int kind, int t, int i) {
        if (!hasRow(s) || !isKind(kind) || !tones.hasNote(t) || !tones.hasNote(i)) {
            return NONE;
        }
        return formNote(slots[s], tones.size(), kind, t, i);
    }

    public int about(int s, int what) {
        if (!hasRow(s)) {
            return NONE;
        }
        int n = tones.size();
        switch (what) {
            case 0:
                return formsLikeItself(slots[s], n);
            case 1:
                return isFull(slots[s], n) ? 1 : 0;
            case 2:
                int alike = formsLikeItself(slots[s], n);
                return alike == 0 ? NONE : KINDS * n / alike;
            default:
                return NONE;
        }
    }

    public int partners(int s, int kind) {
        int n = tones.size();
        if (!hasRow(s) || !isKind(kind) || n % 2 != 0) {
            return NONE;
        }
        int half = notesOf(slots[s], 0, n / 2);
        int found = 0;
        for (int t = 0; t < n; t++) {
            if ((notesOf(formOf(slots[s], n, kind, t), 0, n / 2) & half) == 0) {
                found |= 1 << t;
            }
        }
        return found;
    }

    public int split(int s, int d) {
        int n = tones.size();
        if (!hasRow(s) || d < 1 || n % d != 0) {
            return NONE;
        }
        int first = tones.leastImage(MIRRORS, notesOf(slots[s], 0, d));
        for (int from = d; from < n; from += d) {
            if (tones.leastImage(MIRRORS, notesOf(slots[s], from, d)) != first) {
                return 0;
            }
        }
        return 1;
    }

    public int full() {
        return fullRows.count(tones.size());
    }

    public boolean pick(int s, int k) {
        int n = tones.size();
        if (!isSlot(s) || k < 0 || k >= fullRows.count(n)) {
            return false;
        }
        slots[s] = fullRows.get(n, k);
        return true;
    }

    public int rank(int s) {
        return hasRow(s) ? fullRows.find(tones.size(), slots[s]) : NONE;
    }

    // ---- rounds

    public int fills(int c, int motif) {
        return isBeatSet(c, motif) ? round.count(c, motif) : NONE;
    }

    public int fill(int c, int motif, int k) {
        if (!isBeatSet(c, motif) || k < 0 || k >= round.count(c, motif)) {
            return NONE;
        }
        return round.get(k);
    }

    public int pure(int c, int motif) {
        return isBeatSet(c, motif) ? round.countPure(c, motif) : NONE;
    }

    public int period(int c, int set) {
        return isBeatSet(c, set) ? leastPeriod(c, set) : NONE;
    }

    // ---- scores

    public int feed(int a, int b, int c, int d, int e) {
        ByteRow tape = reader.tape();
        if (tape.length() + FED_BYTES > TAPE_BYTES) {
            return NONE;
        }
        tape.addFour(a);
        tape.addFour(b);
        tape.addFour(c);
        tape.addFour(d);
        tape.addFour(e);
        return tape.length();
    }

    public int end(int n) {
        if (n < 0 || n > reader.tape().length()) {
            return NONE;
        }
        reader.tape().cut(n);
        return n;
    }

    public int load() {
        boolean sound = reader.read(tones.size());
        reader.tape().cut(0);
        if (!sound) {
            return NONE;
        }
        current = reader.exchange(current);
        return current.voiceCount();
    }

    public int fault(int what) {
        switch (what) {
            case 0:
                return reader.faultKind();
            case 1:
                return reader.faultPlace();
            default:
                return NONE;
        }
    }

    public int score(int what) {
        switch (what) {
            case 0:
                return current.rowCount();
            case 1:
                return current.voiceCount();
            case 2:
                return current.allClashes(tones.size());
            case 3:
                return current.beats(tones.size());
            default:
                return NONE;
        }
    }

    public int voice(int v, int what) {
        if (!current.hasVoice(v)) {
            return NONE;
        }
        switch (what) {
            case 0:
                return current.rowOf(v);
            case 1:
                return current.kindOf(v);
            case 2:
                return current.turnOf(v);
            case 3:
                return current.beginOf(v);
            case 4:
                return current.clashesFrom(v, current.beginOf(v), tones.size());
            default:
                return NONE;
        }
    }

    public int sings(int v, int beat) {
        return current.hasVoice(v) ? current.sung(v, beat, tones.size()) : NONE;
    }

    public int chord(int beat) {
        int set = 0;
        for (int v = 0; v < current.voiceCount(); v++) {
            int note = current.sung(v, beat, tones.size());
            if (note != NONE) {
                set |= 1 << note;
            }
        }
        return set;
    }

    public int fit(int v, int most) {
        if (!current.hasVoice(v) || most < 0 || most > LAST_BEGIN) {
            return NONE;
        }
        int best = 0;
        int fewest = current.clashesFrom(v, 0, tones.size());
        for (int begin = 1; begin <= most; begin++) {
            int clashes = current.clashesFrom(v, begin, tones.size());
            if (clashes < fewest) {
                fewest = clashes;
                best = begin;
            }
        }
        current.moveTo(v, best);
        return fewest;
    }

    public boolean keep(int v, int s) {
        if (!current.hasVoice(v) || !isSlot(s)) {
            return false;
        }
        slots[s] = current.sungRow(v, tones.size());
        return true;
    }

    public int write() {
        written.cut(0);
        current.writeTo(written, tones.size());
        return written.length();
    }

    public int out(int i) {
        return written.get(i);
    }

    public int take() {
        reader.tape().copy(written);
        return reader.tape().length();
    }

    // ---- what can be

    private static boolean isGroup(int group) {
        return group >= 0 && group < GROUPS;
    }

    private static boolean isKind(int kind) {
        return kind >= 0 && kind < KINDS;
    }

    private static boolean isSlot(int s) {
        return s >= 0 && s < SLOTS;
    }

    private boolean hasRow(int s) {
        return isSlot(s) && slots[s] != NO_ROW;
    }

    private static boolean isBeatSet(int c, int set) {
        return c >= LEAST_BEATS && c <= MOST_BEATS && set > 0 && set < 1 << c;
    }

    // ---- sets on a circle, rows in one number

    /** The set t steps later on a circle of that size; t lies in 0 .. size - 1. */
    private static int turned(int set, int t, int size) {
        return (set << t | set >>> (size - t)) & ((1 << size) - 1);
    }

    /** The least member of a set that is not empty. */
    private static int leastMember(int set) {
        return Integer.numberOfTrailingZeros(set);
    }

    private static int withoutLeast(int set) {
        return set & set - 1;
    }

    private static int leastPeriod(int c, int set) {
        for (int p = 1; p < c; p++) {
            if (turned(set, p, c) == set) {
                return p;
            }
        }
        return c;
    }

    private static int noteAt(long row, int i) {
        return (int) (row >>> 4 * i) & 15;
    }

    private static boolean isRow(long row, int n) {
        return notesOf(row, 0, n) == (1 << n) - 1;
    }

    private static int notesOf(long row, int from, int count) {
        int set = 0;
        for (int i = from; i < from + count; i++) {
            set |= 1 << noteAt(row, i);
        }
        return set;
    }

    private static int formNote(long row, int n, int kind, int t, int i) {
        int x = noteAt(row, kind < 2 ? i : n - 1 - i);
        int y = kind % 2 == 0 ? x + t : t - x;
        if (y < 0) {
            return y + n;
        }
        return y < n ? y : y - n;
    }

    private static long formOf(long row, int n, int kind, int t) {
        long made = 0L;
        for (int i = 0; i < n; i++) {
            made |= (long) formNote(row, n, kind, t, i) << 4 * i;
        }
        return made;
    }

    private static int formsLikeItself(long row, int n) {
        int count = 0;
        for (int kind = 0; kind < KINDS; kind++) {
            for (int t = 0; t < n; t++) {
                if (formOf(row, n, kind, t) == row) {
                    count++;
                }
            }
        }
        return count;
    }

    private static int gap(int from, int to, int n) {
        return to < from ? to - from + n : to - from;
    }

    private static boolean isFull(long row, int n) {
        int seen = 0;
        for (int i = 1; i < n; i++) {
            seen |= 1 << gap(noteAt(row, i - 1), noteAt(row, i), n);
        }
        return Integer.bitCount(seen) == n - 1;
    }

    /** The octave's size, its groups of acts, and the names of all sets. */
    private static final class Octave {
        private int n = MOST_NOTES;
        private final int[][] names = new int[GROUPS][MOST_SETS];
        private final boolean[] named = new boolean[GROUPS];

        int size() {
            return n;
        }

        int allNotes() {
            return (1 << n) - 1;
        }

        void resize(int notes) {
            n = notes;
            for (int group = 0; group < GROUPS; group++) {
                named[group] = false;
            }
        }

        boolean hasNote(int x) {
            return x >= 0 && x < n;
        }

        boolean hasSet(int set) {
            return set >= 0 && set < 1 << n;
        }

        boolean areOfOneSize(int a, int b) {
            return hasSet(a) && hasSet(b) && Integer.bitCount(a) == Integer.bitCount(b);
        }

        boolean hasFactor(int group, int m) {
            if (m < 1 || m >= n) {
                return false;
            }
            if (group == ALL_ACTS) {
                return isCoprime(m);
            }
            return m == 1 || group == MIRRORS && m == n - 1;
        }

        private boolean isCoprime(int m) {
            for (int d = 2; d <= m; d++) {
                if (m % d == 0 && n % d == 0) {
                    return false;
                }
            }
            return true;
        }

        int multiplied(int set, int m) {
            int made = 0;
            int y = 0;
            for (int x = 0; x < n; x++) {
                if ((set >> x & 1) != 0) {
                    made |= 1 << y;
                }
                y += m;
                if (y >= n) {
                    y -= n;
                }
            }
            return made;
        }

        int actsInto(int group, int a, int b) {
            int count = 0;
            for (int m = 1; m < n; m++) {
                if (!hasFactor(group, m)) {
                    continue;
                }
                int whole = multiplied(a, m);
                for (int t = 0; t < n; t++) {
                    if ((turned(whole, t, n) & ~b) == 0) {
                        count++;
                    }
                }
            }
            return count;
        }

        /** Each image comes from as many acts as leave the set as it is, so none has to be remembered. */
        int imagesInto(int group, int a, int b) {
            int acts = actsInto(group, a, a);
            return acts == 0 ? NONE : actsInto(group, a, b) / acts;
        }

        int leastImage(int group, int set) {
            nameAll(group);
            return names[group][set];
        }

        int countNames(int group, int k) {
            nameAll(group);
            int count = 0;
            for (int set = 0; set < 1 << n; set++) {
                if (isNameOfSize(group, k, set)) {
                    count++;
                }
            }
            return count;
        }

        int findName(int group, int k, int i) {
            nameAll(group);
            int before = 0;
            for (int set = 0; set < 1 << n; set++) {
                if (isNameOfSize(group, k, set)) {
                    if (before == i) {
                        return set;
                    }
                    before++;
                }
            }
            return NONE;
        }

        int pairsApart(int set, int d) {
            int count = Integer.bitCount(set & turned(set, d, n));
            // half round, a pair is met from both of its notes
            return 2 * d == n ? count / 2 : count;
        }

        int leastTwin(int set) {
            nameAll(MIRRORS);
            int size = Integer.bitCount(set);
            for (int other = 0; other < 1 << n; other++) {
                boolean isOther = isNameOfSize(MIRRORS, size, other) && other != names[MIRRORS][set];
                if (isOther && haveSameIntervals(set, other)) {
                    return other;
                }
            }
            return NONE;
        }

        private boolean haveSameIntervals(int a, int b) {
            for (int d = 1; d <= n / 2; d++) {
                if (pairsApart(a, d) != pairsApart(b, d)) {
                    return false;
                }
            }
            return true;
        }

        private boolean isNameOfSize(int group, int k, int set) {
            return names[group][set] == set && Integer.bitCount(set) == k;
        }

        private void nameAll(int group) {
            if (named[group]) {
                return;
            }
            Arrays.fill(names[group], NONE);
            for (int set = 0; set < 1 << n; set++) {
                // sets come rising, so one without a name is the least of its class
                if (names[group][set] == NONE) {
                    nameClass(group, set);
                }
            }
            named[group] = true;
        }

        private void nameClass(int group, int set) {
            for (int m = 1; m < n; m++) {
                if (!hasFactor(group, m)) {
                    continue;
                }
                int whole = multiplied(set, m);
                for (int t = 0; t < n; t++) {
                    names[group][turned(whole, t, n)] = set;
                }
            }
        }
    }

    /** Least leadings: a's notes are paired as they rise, so what is left to pay hangs on b's taken notes alone. */
    private static final class Leading {
        private final int[] sums = new int[MOST_SETS];
        private final int[] ways = new int[MOST_SETS];
        private final int[] from = new int[MOST_NOTES];
        private final int[] to = new int[MOST_NOTES];
        private int n;
        private int pairs;

        void solve(int size, int a, int b) {
            n = size;
            pairs = Integer.bitCount(a);
            list(a, from);
            list(b, to);
            int all = (1 << pairs) - 1;
            sums[all] = 0;
            ways[all] = 1;
            for (int taken = all - 1; taken >= 0; taken--) {
                weigh(taken);
            }
        }

        int leastSum() {
            return sums[0];
        }

        int leastCount() {
            return ways[0];
        }

        int firstGoal(int i) {
            int taken = 0;
            int goal = NONE;
            for (int a = 0; a <= i && a < pairs; a++) {
                int b = firstBest(taken, a);
                if (b == NONE) {
                    return NONE;
                }
                goal = to[b];
                taken |= 1 << b;
            }
            return goal;
        }

        private void list(int set, int[] notes) {
            int rest = set;
            for (int i = 0; i < pairs && i < notes.length; i++) {
                notes[i] = leastMember(rest);
                rest = withoutLeast(rest);
            }
        }

        private void weigh(int taken) {
            int a = Integer.bitCount(taken);
            int least = Integer.MAX_VALUE;
            int count = 0;
            for (int b = 0; b < pairs; b++) {
                if ((taken >> b & 1) != 0) {
                    continue;
                }
                int sum = sumBy(taken, a, b);
                if (sum < least) {
                    least = sum;
                    count = 0;
                }
                if (sum == least) {
                    count += ways[taken | 1 << b];
                }
            }
            sums[taken] = least;
            ways[taken] = count;
        }

        private int firstBest(int taken, int a) {
            for (int b = 0; b < pairs; b++) {
                if ((taken >> b & 1) == 0 && sumBy(taken, a, b) == sums[taken]) {
                    return b;
                }
            }
            return NONE;
        }

        private int sumBy(int taken, int a, int b) {
            int apart = Math.abs(from[a] - to[b]);
            return Math.min(apart, n - apart) + sums[taken | 1 << b];
        }
    }

    /** Fewest moves, searched from all images of the goal at once: each move can be taken back. */
    private static final class Roads {
        private final int[] moves = new int[MOST_SETS];
        private final int[] queue = new int[MOST_SETS];
        private int queued;

        int fewestMoves(Octave tones, int a, int b) {
            Arrays.fill(moves, NONE);
            queued = 0;
            startFromImages(tones, b);
            for (int i = 0; i < queued && i < queue.length && moves[a] == NONE; i++) {
                moveOn(queue[i], tones.size());
            }
            return moves[a];
        }

        private void startFromImages(Octave tones, int b) {
            int n = tones.size();
            int mirrored = tones.multiplied(b, n - 1);
            for (int t = 0; t < n; t++) {
                reach(turned(b, t, n), 0);
                reach(turned(mirrored, t, n), 0);
            }
        }

        private void moveOn(int set, int n) {
            for (int x = 0; x < n; x++) {
                int y = x + 1 < n ? x + 1 : 0;
                int both = 1 << x | 1 << y;
                // just one of two neighbours is there: it moves to the other's place, up or down
                if (Integer.bitCount(set & both) == 1) {
                    reach(set ^ both, moves[set] + 1);
                }
            }
        }

        private void reach(int set, int count) {
            if (moves[set] == NONE && queued < queue.length) {
                moves[set] = count;
                queue[queued] = set;
                queued++;
            }
        }
    }

    /** The full rows that begin with 0, listed in order once for each size of the octave that is asked for. */
    private static final class FullRows {
        /** As many as there are for all sizes together: 2, 4, 24, 288 and 3856 for 4, 6, 8, 10 and 12. */
        private static final int MOST_FULL = 4174;

        private final long[] rows = new long[MOST_FULL];
        private final int[] starts = new int[MOST_NOTES + 1];
        private final int[] ends = new int[MOST_NOTES + 1];
        private final boolean[] listed = new boolean[MOST_NOTES + 1];
        private int used;

        int count(int n) {
            list(n);
            return ends[n] - starts[n];
        }

        long get(int n, int k) {
            list(n);
            return rows[starts[n] + k];
        }

        int find(int n, long row) {
            list(n);
            for (int i = starts[n]; i < ends[n]; i++) {
                if (rows[i] == row) {
                    return i - starts[n];
                }
            }
            return NONE;
        }

        private void list(int n) {
            if (listed[n]) {
                return;
            }
            listed[n] = true;
            starts[n] = used;
            // all gaps 1 .. N - 1 together lead back to the first note if N is odd
            if (n % 2 == 0) {
                int others = (1 << n) - 2;
                lengthen(n, 1, 0, others, others, 0L);
            }
            ends[n] = used;
        }

        private void lengthen(int n, int length, int last, int notes, int gaps, long row) {
            if (length >= n) {
                add(row);
                return;
            }
            int open = notes & turned(gaps, last, n);
            // all gaps together lead half round, so that note has to be the last
            open &= length == n - 1 ? 1 << n / 2 : ~(1 << n / 2);
            for (int left = Integer.bitCount(open); left > 0; left--) {
                int x = leastMember(open);
                open = withoutLeast(open);
                int restGaps = gaps & ~(1 << gap(last, x, n));
                lengthen(n, length + 1, x, notes & ~(1 << x), restGaps, row | (long) x << 4 * length);
            }
        }

        private void add(long row) {
            if (used < rows.length) {
                rows[used] = row;
                used++;
            }
        }
    }

    /** The entries that fill a round with a motif; those asked for last are kept. */
    private static final class Round {
        /** A motif of m beats has at most m places for each of c / m entries: 3 to the 8 is the most up to 24. */
        private static final int MOST_FILLS = 6561;

        private final int[] found = new int[MOST_FILLS];
        private int count;
        private boolean sorted;
        private int beats;
        private int shape;

        int count(int c, int motif) {
            if (beats != c || shape != motif) {
                beats = c;
                shape = motif;
                count = 0;
                sorted = false;
                cover(0, 0, 0);
            }
            return count;
        }

        int get(int k) {
            if (!sorted) {
                sort();
                sorted = true;
            }
            return found[k];
        }

        int countPure(int c, int motif) {
            if (leastPeriod(c, motif) != c) {
                return 0;
            }
            int all = count(c, motif);
            int pures = 0;
            for (int i = 0; i < all; i++) {
                if (leastPeriod(c, found[i]) == c) {
                    pures++;
                }
            }
            return pures;
        }

        private void cover(int covered, int entries, int depth) {
            if (covered == (1 << beats) - 1) {
                add(entries);
                return;
            }
            if (depth >= MOST_BEATS) {
                return;
            }
            // the least open beat is some beat of the motif: each choice is one entry, so no fill is met twice
            int open = leastMember(~covered);
            int rest = shape;
            for (int left = Integer.bitCount(shape); left > 0; left--) {
                int entry = gap(leastMember(rest), open, beats);
                rest = withoutLeast(rest);
                int placed = turned(shape, entry, beats);
                if ((placed & covered) == 0) {
                    cover(covered | placed, entries | 1 << entry, depth + 1);
                }
            }
        }

        private void add(int entries) {
            if (count < found.length) {
                found[count] = entries;
                count++;
            }
        }

        private void sort() {
            for (int top = count / 2 - 1; top >= 0; top--) {
                sink(top, count);
            }
            for (int last = count - 1; last > 0; last--) {
                int most = found[0];
                found[0] = found[last];
                found[last] = most;
                sink(0, last);
            }
        }

        private void sink(int top, int size) {
            int value = found[top];
            int at = top;
            for (int child = 2 * top + 1; child < size; child = 2 * child + 1) {
                if (child + 1 < size && found[child + 1] > found[child]) {
                    child++;
                }
                if (found[child] <= value) {
                    break;
                }
                found[at] = found[child];
                at = child;
            }
            found[at] = value;
        }
    }

    /** Bytes as numbers 0 .. 255; what would be behind the room is left out. */
    private static final class ByteRow {
        private final int[] bytes = new int[TAPE_BYTES];
        private int length;

        int length() {
            return length;
        }

        int get(int i) {
            return i >= 0 && i < length ? bytes[i] : NONE;
        }

        void cut(int n) {
            if (n >= 0 && n < length) {
                length = n;
            }
        }

        void copy(ByteRow other) {
            System.arraycopy(other.bytes, 0, bytes, 0, other.length);
            length = other.length;
        }

        void add(int value) {
            if (length < bytes.length) {
                bytes[length] = value & 255;
                length++;
            }
        }

        void addFour(int value) {
            add(value >>> 24);
            add(value >>> 16);
            add(value >>> 8);
            add(value);
        }

        void addText(String text) {
            for (int i = 0; i < text.length(); i++) {
                add(text.charAt(i));
            }
        }

        void addNumber(int value) {
            if (value >= 10) {
                add('0' + value / 10);
            }
            add('0' + value % 10);
        }

        boolean spells(String word, int from, int to) {
            if (from < 0 || to > length || word.length() != to - from) {
                return false;
            }
            for (int i = 0; i < word.length(); i++) {
                if (bytes[from + i] != word.charAt(i)) {
                    return false;
                }
            }
            return true;
        }
    }

    /** Rows with their letters, and the voices that sing them. */
    private static final class Score {
        private static final String KIND_LETTERS = "piru";

        private final long[] rows = new long[MOST_ROWS];
        private final int[] letters = new int[MOST_ROWS];
        private int rowCount;
        private final int[] rowOf = new int[MOST_VOICES];
        private final int[] kindOf = new int[MOST_VOICES];
        private final int[] turnOf = new int[MOST_VOICES];
        private final int[] beginOf = new int[MOST_VOICES];
        private int voiceCount;

        void clear() {
            rowCount = 0;
            voiceCount = 0;
        }

        int rowCount() {
            return rowCount;
        }

        int voiceCount() {
            return voiceCount;
        }

        boolean hasVoice(int v) {
            return v >= 0 && v < voiceCount;
        }

        int rowOf(int v) {
            return rowOf[v];
        }

        int kindOf(int v) {
            return kindOf[v];
        }

        int turnOf(int v) {
            return turnOf[v];
        }

        int beginOf(int v) {
            return beginOf[v];
        }

        void moveTo(int v, int begin) {
            beginOf[v] = begin;
        }

        int findRow(int letter) {
            for (int i = 0; i < rowCount; i++) {
                if (letters[i] == letter) {
                    return i;
                }
            }
            return NONE;
        }

        void addRow(int letter, long row) {
            if (rowCount < MOST_ROWS) {
                letters[rowCount] = letter;
                rows[rowCount] = row;
                rowCount++;
            }
        }

        void addVoice(int row, int kind, int t, int begin) {
            if (voiceCount < MOST_VOICES) {
                rowOf[voiceCount] = row;
                kindOf[voiceCount] = kind;
                turnOf[voiceCount] = t;
                beginOf[voiceCount] = begin;
                voiceCount++;
            }
        }

        long sungRow(int v, int n) {
            return formOf(rows[rowOf[v]], n, kindOf[v], turnOf[v]);
        }

        int sung(int v, int beat, int n) {
            // a beat behind the voice's begin is 0 or more, so the difference can't wrap round
            if (beat < beginOf[v] || beat - beginOf[v] >= n) {
                return NONE;
            }
            return formNote(rows[rowOf[v]], n, kindOf[v], turnOf[v], beat - beginOf[v]);
        }

        int clashesFrom(int v, int begin, int n) {
            long own = sungRow(v, n);
            int count = 0;
            for (int other = 0; other < voiceCount; other++) {
                for (int i = 0; i < n && other != v; i++) {
                    if (sung(other, begin + i, n) == noteAt(own, i)) {
                        count++;
                    }
                }
            }
            return count;
        }

        int allClashes(int n) {
            int twice = 0;
            for (int v = 0; v < voiceCount; v++) {
                twice += clashesFrom(v, beginOf[v], n);
            }
            return twice / 2;
        }

        int beats(int n) {
            int count = 0;
            for (int v = 0; v < voiceCount; v++) {
                count = Math.max(count, beginOf[v] + n);
            }
            return count;
        }

        void writeTo(ByteRow text, int n) {
            for (int r = 0; r < rowCount; r++) {
                writeRow(text, r, n);
            }
            for (int v = 0; v < voiceCount; v++) {
                writeVoice(text, v);
            }
        }

        private void writeRow(ByteRow text, int r, int n) {
            text.addText("row ");
            text.add(letters[r]);
            text.addText(" = ");
            for (int i = 0; i < n; i++) {
                text.addNumber(noteAt(rows[r], i));
                text.add(' ');
            }
            text.addText(";\n");
        }

        private void writeVoice(ByteRow text, int v) {
            text.addText("voice ");
            text.add(letters[rowOf[v]]);
            text.add(' ');
            text.add(KIND_LETTERS.charAt(kindOf[v]));
            text.add(' ');
            text.addNumber(turnOf[v]);
            text.addText(" at ");
            text.addNumber(beginOf[v]);
            text.addText(" ;\n");
        }
    }

    private enum Token {
        ROW, VOICE, AT, LETTER, NUMBER, EQUALS, SEMICOLON, END, STRANGE
    }

    /** Holds the tape and reads it as a score, token by token, up to its first fault. */
    private static final class Reader {
        private static final int MISPLACED = 1;
        private static final int WRONG_LETTER = 2;
        private static final int WRONG_NUMBER = 3;
        private static final int TOO_MANY = 4;

        private final ByteRow text = new ByteRow();
        private Score made = new Score();
        private int n;
        private Token token = Token.END;
        private int value;
        private int place;
        private int next;
        private int fault;
        private int faultAt = NONE;

        ByteRow tape() {
            return text;
        }

        int faultKind() {
            return fault;
        }

        int faultPlace() {
            return faultAt;
        }

        /** Gives the score that was read for an old one, which the next text is read into. */
        Score exchange(Score old) {
            Score fresh = made;
            made = old;
            return fresh;
        }

        boolean read(int size) {
            n = size;
            next = 0;
            fault = 0;
            faultAt = NONE;
            made.clear();
            advance();
            boolean sound = true;
            for (int i = 0; i <= MOST_ROWS && sound && token == Token.ROW; i++) {
                sound = readRow();
            }
            for (int i = 0; i <= MOST_VOICES && sound && token == Token.VOICE; i++) {
                sound = readVoice();
            }
            return sound && holds(token == Token.END, MISPLACED);
        }

        private boolean readRow() {
            if (!holds(made.rowCount() < MOST_ROWS, TOO_MANY)) {
                return false;
            }
            advance();
            int letter = value;
            if (!holds(token == Token.LETTER, MISPLACED) || !holds(made.findRow(letter) == NONE, WRONG_LETTER)) {
                return false;
            }
            advance();
            if (!passes(Token.EQUALS) || !holds(token == Token.NUMBER, MISPLACED)) {
                return false;
            }
            long row = readNotes();
            if (row == NO_ROW || !passes(Token.SEMICOLON)) {
                return false;
            }
            made.addRow(letter, row);
            return true;
        }

        /** Ends ahead of the ; that closes a row with all notes; NO_ROW at a fault. */
        private long readNotes() {
            long row = 0L;
            int seen = 0;
            int count = 0;
            // one number more than there are notes is a note twice or none at all
            for (int i = 0; i <= n && token == Token.NUMBER; i++) {
                if (!holds(value < n && (seen >> value & 1) == 0, WRONG_NUMBER)) {
                    return NO_ROW;
                }
                seen |= 1 << value;
                row |= (long) value << 4 * count;
                count++;
                advance();
            }
            boolean closed = holds(token == Token.SEMICOLON, MISPLACED) && holds(count == n, WRONG_NUMBER);
            return closed ? row : NO_ROW;
        }

        private boolean readVoice() {
            if (!holds(made.voiceCount() < MOST_VOICES, TOO_MANY)) {
                return false;
            }
            advance();
            int row = token == Token.LETTER ? made.findRow(value) : NONE;
            if (!holds(token == Token.LETTER, MISPLACED) || !holds(row != NONE, WRONG_LETTER)) {
                return false;
            }
            advance();
            int kind = token == Token.LETTER ? Score.KIND_LETTERS.indexOf((char) value) : NONE;
            if (!holds(kind >= 0, MISPLACED)) {
                return false;
            }
            advance();
            int t = value;
            if (!passesNumber(n - 1) || !passes(Token.AT)) {
                return false;
            }
            int begin = value;
            if (!passesNumber(LAST_BEGIN) || !passes(Token.SEMICOLON)) {
                return false;
            }
            made.addVoice(row, kind, t, begin);
            return true;
        }

        private boolean passesNumber(int most) {
            if (!holds(token == Token.NUMBER, MISPLACED) || !holds(value <= most, WRONG_NUMBER)) {
                return false;
            }
            advance();
            return true;
        }

        private boolean passes(Token asked) {
            if (!holds(token == asked, MISPLACED)) {
                return false;
            }
            advance();
            return true;
        }

        private boolean holds(boolean asked, int otherwise) {
            if (!asked) {
                fault = otherwise;
                faultAt = place;
            }
            return asked;
        }

        private void advance() {
            place = next;
            for (int i = 0; i < TAPE_BYTES && isBlank(text.get(place)); i++) {
                place++;
            }
            int first = text.get(place);
            next = place + 1;
            value = 0;
            if (first == NONE) {
                token = Token.END;
                next = place;
            } else if (isLetter(first)) {
                token = readWord(first);
            } else if (isDigit(first)) {
                token = readNumber();
            } else if (first == '=') {
                token = Token.EQUALS;
            } else {
                token = first == ';' ? Token.SEMICOLON : Token.STRANGE;
            }
        }

        private Token readWord(int first) {
            for (int i = 0; i < TAPE_BYTES && isLetter(text.get(next)); i++) {
                next++;
            }
            if (next == place + 1) {
                value = first;
                return first >= 'a' ? Token.LETTER : Token.STRANGE;
            }
            if (text.spells("row", place, next)) {
                return Token.ROW;
            }
            if (text.spells("voice", place, next)) {
                return Token.VOICE;
            }
            return text.spells("at", place, next) ? Token.AT : Token.STRANGE;
        }

        private Token readNumber() {
            for (int i = 0; i < TAPE_BYTES && isDigit(text.get(next)); i++) {
                next++;
            }
            if (next > place + 2) {
                return Token.STRANGE;
            }
            for (int i = place; i < next; i++) {
                value = 10 * value + text.get(i) - '0';
            }
            return Token.NUMBER;
        }

        private static boolean isBlank(int b) {
            return b == ' ' || b == '\n';
        }

        private static boolean isLetter(int b) {
            return b >= 'a' && b <= 'z' || b >= 'A' && b <= 'Z';
        }

        private static boolean isDigit(int b) {
            return b >= '0' && b <= '9';
        }
    }
}
