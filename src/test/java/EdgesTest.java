/** The sentences up to promise 24 that name a boundary case, in their order, with calls on both sides of each. */
public final class EdgesTest {
    private static final int MIN = Integer.MIN_VALUE;
    private static final int MAX = Integer.MAX_VALUE;

    private static final long RISING = 0xBA9876543210L;

    /** The m of GROUP 2 for each N, as bits. */
    private static final int[] FACTORS = {0, 0, 0, 0b110, 0b1010, 0b11110, 0b100010, 0b1111110, 0b10101010,
        0b110110110, 0b1010001010, 0b11111111110, 0b100010100010};

    public static void main(String[] args) {
        newObject();
        octave();
        octaveRefused();
        octaveChanged();
        namesOfEachOctave();
        image();
        name();
        own();
        classes();
        nameOf();
        interval();
        twin();
        within();
        lead();
        road();
        row();
        rowRefused();
        form();
        about();
        partners();
        split();
        full();
        pick();
        rank();
        fills();
        fill();
        pure();
        period();
        Check.finish();
    }

    private static ToneHouse house(int n) {
        ToneHouse x = new ToneHouse();
        x.octave(n);
        return x;
    }

    private static void newObject() {
        ToneHouse x = new ToneHouse();
        Check.says("1: N is 12");
        Check.due("image(4095, 11, 11)", x.image(4095, 11, 11), 4095);
        Check.due("image(4096, 1, 0)", x.image(4096, 1, 0), -1);
        Check.due("full()", x.full(), 3856);
        Check.says("1: no ROWS");
        for (int s = 0; s < 6; s++) {
            Check.due("form(" + s + ", 0, 0, 0)", x.form(s, 0, 0, 0), -1);
            Check.due("about(" + s + ", 0)", x.about(s, 0), -1);
        }
        Check.says("1: an empty SCORE and TAPE");
        for (int what = 0; what < 4; what++) {
            Check.due("score(" + what + ")", x.score(what), 0);
        }
        Check.due("voice(0, 0)", x.voice(0, 0), -1);
        Check.due("chord(0)", x.chord(0), 0);
        Check.due("end(1)", x.end(1), -1);
        Check.due("load()", x.load(), 0);
        Check.due("write()", x.write(), 0);
    }

    private static void octave() {
        Check.says("2: N 3 .. 12");
        ToneHouse x = new ToneHouse();
        for (int n = 3; n <= 12; n++) {
            Check.due("octave(" + n + ")", x.octave(n), true);
            int all = (1 << n) - 1;
            Check.due("image(" + all + ", 1, 0) of " + n, x.image(all, 1, 0), all);
            Check.due("image(" + (all + 1) + ", 1, 0) of " + n, x.image(all + 1, 1, 0), -1);
        }
        for (int n : new int[] {2, 13, 1, 0, -1, -3, -12, 14, 15, 259, 268, MIN, MAX}) {
            Check.due("octave(" + n + ")", x.octave(n), false);
        }
    }

    private static void octaveRefused() {
        Check.says("2: false, and nothing is done, if it can't");
        ToneHouse x = house(3);
        x.row(5, 0x102L);
        Texts.loadText(x, "row k = 1 0 2 ; voice k u 2 at 40 ;");
        x.write();
        Texts.feedAll(x, "row k");
        for (int n : new int[] {2, 13, 0, -1, MIN, MAX}) {
            Check.due("octave(" + n + ")", x.octave(n), false);
            Check.due("image(7, 2, 2)", x.image(7, 2, 2), 7);
            Check.due("image(8, 1, 0)", x.image(8, 1, 0), -1);
            Check.due("form(5, 0, 0, 0)", x.form(5, 0, 0, 0), 2);
            Check.due("voice(0, 3)", x.voice(0, 3), 40);
            Check.due("score(0)", x.score(0), 1);
            Check.due("out(0)", x.out(0), 'r');
            Check.due("end(6)", x.end(6), -1);
            Check.due("end(5)", x.end(5), 5);
        }
    }

    private static void octaveChanged() {
        Check.says("2: Changing N empties all SLOTS and the SCORE");
        for (int n = 3; n < 12; n++) {
            ToneHouse x = new ToneHouse();
            for (int s = 0; s < 6; s++) {
                x.row(s, RISING);
            }
            Texts.loadText(x, "row a=0 1 2 3 4 5 6 7 8 9 10 11;voice a p 0 at 0;");
            x.octave(n);
            emptied(x, "at " + n);
            x.octave(12);
            emptied(x, "at 12 again");
        }
    }

    private static void namesOfEachOctave() {
        Check.says("2: The octave has n NOTES, whatever was asked of another one");
        ToneHouse x = new ToneHouse();
        for (int n : new int[] {12, 4, 11, 3, 12, 8, 5, 10, 6, 9, 7, 12}) {
            x.octave(n);
            for (int group = 0; group < 3; group++) {
                String of = " of group " + group + ", N " + n;
                Check.due("name of the last note" + of, x.name(group, 1 << n - 1), 1);
                Check.due("name of the first and the last" + of, x.name(group, 1 | 1 << n - 1), 3);
                Check.due("nameOf all notes" + of, x.nameOf(group, n, 0), (1 << n) - 1);
                Check.due("nameOf two notes" + of, x.nameOf(group, 2, 0), 3);
            }
            Check.due("classes(0, 2), N " + n, x.classes(0, 2), n / 2);
            Check.due("classes(1, 2), N " + n, x.classes(1, 2), n / 2);
            Check.due("own(0, 3, 1), N " + n, x.own(0, 3, 1), n);
            Check.due("road(3, first and last), N " + n, x.road(3, 1 | 1 << n - 1), 0);
            Check.due("lead(1, last, 0), N " + n, x.lead(1, 1 << n - 1, 0), 1);
            Check.due("twin(27), N " + n, x.twin(27), n == 8 ? 39 : -1);
            x.row(0, rising(n));
            Check.due("split(0, N), N " + n, x.split(0, n), 1);
        }
    }

    private static void emptied(ToneHouse x, String when) {
        for (int s = 0; s < 6; s++) {
            Check.due("form(" + s + ", 0, 0, 0) " + when, x.form(s, 0, 0, 0), -1);
            Check.due("split(" + s + ", 1) " + when, x.split(s, 1), -1);
            Check.due("rank(" + s + ") " + when, x.rank(s), -1);
        }
        for (int what = 0; what < 4; what++) {
            Check.due("score(" + what + ") " + when, x.score(what), 0);
        }
        Check.due("voice(0, 0) " + when, x.voice(0, 0), -1);
        Check.due("sings(0, 0) " + when, x.sings(0, 0), -1);
        Check.due("chord(0) " + when, x.chord(0), 0);
        Check.due("keep(0, 0) " + when, x.keep(0, 0), false);
        Check.due("write() " + when, x.write(), 0);
    }

    private static void image() {
        for (int n = 3; n <= 12; n++) {
            ToneHouse x = house(n);
            Check.says("3: NONE: no such SET (0 .. 2 to the N, less 1), N " + n);
            Check.due("image(0, 1, 0)", x.image(0, 1, 0), 0);
            for (int set : new int[] {1 << n, -1, MIN, MAX, 1 << 30, 1 << n | 1}) {
                Check.due("image(" + set + ", 1, 0)", x.image(set, 1, 0), -1);
            }
            Check.says("3: t 0 .. N - 1, N " + n);
            Check.due("image(1, 1, 0)", x.image(1, 1, 0), 1);
            Check.due("image(1, 1, N - 1)", x.image(1, 1, n - 1), 1 << n - 1);
            for (int t : new int[] {-1, n, n + 1, -n, MIN, MAX}) {
                Check.due("image(1, 1, " + t + ")", x.image(1, 1, t), -1);
            }
            Check.says("3: m 1 .. N - 1 without a divisor in common with N but 1, N " + n);
            for (int m = -n - 1; m <= 2 * n + 1; m++) {
                boolean can = m > 0 && m < n && (FACTORS[n] >> m & 1) == 1;
                Check.due("image(2, " + m + ", 0)", x.image(2, m, 0), can ? 1 << m : -1);
            }
            Check.due("image(2, MIN, 0)", x.image(2, MIN, 0), -1);
            Check.due("image(2, MAX, 0)", x.image(2, MAX, 0), -1);
            Check.says("3: m x + t modulo N, N " + n);
            Check.due("the last note goes up to the first", x.image(1 << n - 1, 1, 1), 1);
            Check.due("mirrored, the last note is note 1", x.image(1 << n - 1, n - 1, 0), 2);
            Check.due("mirrored and turned back", x.image(1 << n - 1, n - 1, n - 1), 1);
        }
        Check.due("image(2048, 7, 11)", new ToneHouse().image(2048, 7, 11), 16);
    }

    private static void name() {
        ToneHouse x = new ToneHouse();
        Check.says("4: its NAME is the least of them");
        for (int group = 0; group < 3; group++) {
            Check.due("name(" + group + ", 0)", x.name(group, 0), 0);
            Check.due("name(" + group + ", 4095)", x.name(group, 4095), 4095);
            Check.due("name(" + group + ", 2048)", x.name(group, 2048), 1);
            Check.due("name(" + group + ", 2049)", x.name(group, 2049), 3);
        }
        Check.says("4: GROUPS: 0 m 1 alone; 1 m 1, N - 1; 2 all m");
        Check.due("name(0, 2 + 8 + 16)", x.name(0, 26), 13);
        Check.due("name(1, 2 + 8 + 16)", x.name(1, 26), 11);
        Check.due("name(1, 33)", x.name(1, 33), 33);
        Check.due("name(2, 33)", x.name(2, 33), 3);
        Check.says("4: NONE if one can't be");
        for (int bad : new int[] {-1, 3, MIN, MAX}) {
            Check.due("name(" + bad + ", 0)", x.name(bad, 0), -1);
        }
        for (int bad : new int[] {-1, 4096, MIN, MAX}) {
            Check.due("name(0, " + bad + ")", x.name(0, bad), -1);
            Check.due("name(2, " + bad + ")", x.name(2, bad), -1);
        }
        x.octave(4);
        Check.due("name(1, 15) of 4", x.name(1, 15), 15);
        Check.due("name(1, 9) of 4", x.name(1, 9), 3);
        Check.due("name(1, 16) of 4", x.name(1, 16), -1);
        x.octave(12);
        Check.due("name(1, 9) of 12 again", x.name(1, 9), 9);
    }

    private static void own() {
        int[] counts = {0, 0, 0, 2, 2, 4, 2, 6, 4, 6, 4, 10, 4};
        for (int n = 3; n <= 12; n++) {
            ToneHouse x = house(n);
            int[] acts = {n, 2 * n, n * counts[n]};
            for (int group = 0; group < 3; group++) {
                Check.says("5: ACTS there are (2), N " + n);
                Check.due("own(" + group + ", 0, 2)", x.own(group, 0, 2), acts[group]);
                Check.due("own(" + group + ", 1, 2)", x.own(group, 1, 2), acts[group]);
                Check.says("5: its own IMAGE (0), how many unlike IMAGES (1), N " + n);
                for (int set : new int[] {0, (1 << n) - 1}) {
                    Check.due("own(" + group + ", " + set + ", 0)", x.own(group, set, 0), acts[group]);
                    Check.due("own(" + group + ", " + set + ", 1)", x.own(group, set, 1), 1);
                }
                Check.due("own(" + group + ", 1, 0)", x.own(group, 1, 0), acts[group] / n);
                Check.due("own(" + group + ", 1, 1)", x.own(group, 1, 1), n);
            }
            Check.says("5: NONE if one can't be, or for another what, N " + n);
            for (int bad : new int[] {-1, 3, 4, MIN, MAX}) {
                Check.due("own(0, 1, " + bad + ")", x.own(0, 1, bad), -1);
                Check.due("own(" + bad + ", 1, 2)", x.own(bad, 1, 2), -1);
            }
            for (int bad : new int[] {-1, 1 << n, MIN, MAX}) {
                for (int what = 0; what < 3; what++) {
                    Check.due("own(1, " + bad + ", " + what + ")", x.own(1, bad, what), -1);
                }
            }
        }
    }

    private static void classes() {
        for (int n = 3; n <= 12; n++) {
            ToneHouse x = house(n);
            Check.says("6: k NOTES (0 .. N), NONE if one can't be, N " + n);
            for (int group = 0; group < 3; group++) {
                for (int k : new int[] {0, 1, n - 1, n}) {
                    Check.due("classes(" + group + ", " + k + ")", x.classes(group, k), 1);
                }
                for (int k : new int[] {-1, n + 1, MIN, MAX}) {
                    Check.due("classes(" + group + ", " + k + ")", x.classes(group, k), -1);
                }
            }
            for (int group : new int[] {-1, 3, MIN, MAX}) {
                Check.due("classes(" + group + ", 0)", x.classes(group, 0), -1);
            }
        }
    }

    private static void nameOf() {
        for (int n = 3; n <= 12; n++) {
            ToneHouse x = house(n);
            int all = (1 << n) - 1;
            Check.says("7: the i-th of these, rising; NONE if there is none such, N " + n);
            for (int group = 0; group < 3; group++) {
                int[] sizes = {0, 1, n - 1, n};
                int[] only = {0, 1, all >> 1, all};
                for (int j = 0; j < 4; j++) {
                    Check.due("nameOf(" + group + ", " + sizes[j] + ", 0)", x.nameOf(group, sizes[j], 0), only[j]);
                    for (int i : new int[] {-1, 1, MIN, MAX}) {
                        Check.due("nameOf(" + group + ", " + sizes[j] + ", " + i + ")", x.nameOf(group, sizes[j], i), -1);
                    }
                }
                for (int k : new int[] {-1, n + 1, MIN, MAX}) {
                    Check.due("nameOf(" + group + ", " + k + ", 0)", x.nameOf(group, k, 0), -1);
                }
            }
            for (int group : new int[] {-1, 3, MIN, MAX}) {
                Check.due("nameOf(" + group + ", 1, 0)", x.nameOf(group, 1, 0), -1);
            }
        }
        ToneHouse x = new ToneHouse();
        Check.due("nameOf(1, 3, 0)", x.nameOf(1, 3, 0), 7);
        Check.due("nameOf(1, 3, 1)", x.nameOf(1, 3, 1), 11);
        Check.due("nameOf(1, 3, 11)", x.nameOf(1, 3, 11), 273);
        Check.due("nameOf(1, 3, 12)", x.nameOf(1, 3, 12), -1);
        Check.due("nameOf(0, 3, 18)", x.nameOf(0, 3, 18), 273);
        Check.due("nameOf(0, 3, 19)", x.nameOf(0, 3, 19), -1);
    }

    private static void interval() {
        for (int n = 3; n <= 12; n++) {
            ToneHouse x = house(n);
            int all = (1 << n) - 1;
            Check.says("8: d 1 .. N / 2 (downwards), N " + n);
            for (int d = 1; 2 * d <= n; d++) {
                Check.due("each pair of all notes once, " + d, x.interval(all, d), 2 * d == n ? d : n);
                Check.due("no pair of none, " + d, x.interval(0, d), 0);
                Check.due("no pair of one, " + d, x.interval(1, d), 0);
            }
            for (int d : new int[] {0, n / 2 + 1, n - 1, n, -1, MIN, MAX}) {
                Check.due("interval(" + all + ", " + d + ")", x.interval(all, d), -1);
            }
            Check.says("8: the shorter way round, N " + n);
            Check.due("the first note and the last", x.interval(1 | 1 << n - 1, 1), 1);
            Check.says("8: NONE if one can't be, N " + n);
            for (int set : new int[] {-1, 1 << n, MIN, MAX}) {
                Check.due("interval(" + set + ", 1)", x.interval(set, 1), -1);
            }
        }
        Check.due("interval(9, 2) of 5", house(5).interval(9, 2), 1);
        Check.due("interval(65, 6)", new ToneHouse().interval(65, 6), 1);
    }

    private static void twin() {
        ToneHouse x = new ToneHouse();
        Check.says("9: a NAME of GROUP 1, of another CLASS");
        Check.due("twin(83)", x.twin(83), 139);
        Check.due("twin(139)", x.twin(139), 83);
        Check.due("83 turned by 1", x.twin(166), 139);
        Check.due("83 mirrored", x.twin(x.image(83, 11, 0)), 139);
        Check.due("139 turned round the end", x.twin(x.image(139, 1, 11)), 83);
        Check.due("twin(717), six notes", x.twin(717), 723);
        Check.says("9: NONE if there is none");
        for (int set : new int[] {0, 1, 3, 145, 2047, 4095}) {
            Check.due("twin(" + set + ")", x.twin(set), -1);
        }
        Check.says("9: NONE if no such SET");
        for (int set : new int[] {-1, 4096, 4096 + 83, MIN, MAX}) {
            Check.due("twin(" + set + ")", x.twin(set), -1);
        }
        Check.says("9: another N");
        x.octave(8);
        Check.due("twin(27) of 8", x.twin(27), 39);
        Check.due("twin(39) of 8", x.twin(39), 27);
        Check.due("twin(256) of 8", x.twin(256), -1);
        x.octave(7);
        for (int set = 0; set <= 128; set++) {
            Check.due("twin(" + set + ") of 7", x.twin(set), -1);
        }
    }

    private static void within() {
        ToneHouse x = new ToneHouse();
        for (int group = 0; group < 3; group++) {
            Check.says("10: unlike IMAGES of a have all their NOTES in b, GROUP " + group);
            Check.due("none in none", x.within(group, 0, 0), 1);
            Check.due("none in all", x.within(group, 0, 4095), 1);
            Check.due("one in none", x.within(group, 1, 0), 0);
            Check.due("one in one", x.within(group, 1, 2048), 1);
            Check.due("two in one", x.within(group, 3, 1), 0);
            Check.due("all in all", x.within(group, 4095, 4095), 1);
            Check.due("all in all but one", x.within(group, 4095, 2047), 0);
            Check.due("every other in all", x.within(group, 1365, 4095), 2);
            Check.due("round the end", x.within(0, 3, 2049), 1);
            Check.says("10: NONE if one can't be, GROUP " + group);
            for (int bad : new int[] {-1, 4096, MIN, MAX}) {
                Check.due("within(" + bad + ", 1)", x.within(group, bad, 1), -1);
                Check.due("within(1, " + bad + ")", x.within(group, 1, bad), -1);
            }
        }
        for (int bad : new int[] {-1, 3, MIN, MAX}) {
            Check.due("within of group " + bad, x.within(bad, 1, 1), -1);
        }
    }

    private static void lead() {
        ToneHouse x = new ToneHouse();
        Check.says("11: 2 + i the NOTE to which the i-th NOTE of a goes; NONE: another what");
        int[][] stays = {{0, 0}, {1, 1}, {4095, 12}};
        for (int[] one : stays) {
            Check.due("lead(a, a, 0) of " + one[0], x.lead(one[0], one[0], 0), 0);
            Check.due("lead(a, a, 1) of " + one[0], x.lead(one[0], one[0], 1), 1);
            for (int i = 0; i < one[1]; i++) {
                Check.due("note " + i + " of " + one[0], x.lead(one[0], one[0], 2 + i), i);
            }
            for (int what : new int[] {2 + one[1], -1, -2, MIN, MAX}) {
                Check.due("what " + what + " of " + one[0], x.lead(one[0], one[0], what), -1);
            }
        }
        Check.says("11: the distances (the shorter way round)");
        Check.due("lead(1, 2048, 0)", x.lead(1, 2048, 0), 1);
        Check.due("lead(2048, 1, 0)", x.lead(2048, 1, 0), 1);
        Check.due("lead(1, 64, 0)", x.lead(1, 64, 0), 6);
        Check.due("lead(1, 128, 0)", x.lead(1, 128, 0), 5);
        Check.due("lead(1, 4, 0) of 3", house(3).lead(1, 4, 0), 1);
        Check.says("11: ordered by what the least NOTE of a goes to, then the next one");
        Check.due("lead(65, 520, 0)", x.lead(65, 520, 0), 6);
        Check.due("lead(65, 520, 1)", x.lead(65, 520, 1), 2);
        Check.due("lead(65, 520, 2)", x.lead(65, 520, 2), 3);
        Check.due("lead(65, 520, 3)", x.lead(65, 520, 3), 9);
        Check.due("round the end: lead(3, 3072, 1)", x.lead(3, 3072, 1), 2);
        Check.due("round the end: lead(3, 3072, 2)", x.lead(3, 3072, 2), 10);
        Check.due("round the end: lead(3, 3072, 3)", x.lead(3, 3072, 3), 11);
        Check.says("11: NONE: SETS that can't be, of unlike numbers of NOTES");
        for (int[] bad : new int[][] {{0, 1}, {1, 0}, {1, 3}, {4095, 2047}, {-1, -1}, {4096, 1}, {1, 4096}, {MIN, 1},
            {MAX, MAX}, {4096, 4096}}) {
            for (int what = 0; what < 3; what++) {
                Check.due("lead(" + bad[0] + ", " + bad[1] + ", " + what + ")", x.lead(bad[0], bad[1], what), -1);
            }
        }
    }

    private static void road() {
        ToneHouse x = new ToneHouse();
        Check.says("12: the fewest MOVES from a to any IMAGE of b by GROUP 1");
        Check.due("road(0, 0)", x.road(0, 0), 0);
        Check.due("road(4095, 4095)", x.road(4095, 4095), 0);
        Check.due("road(1, 2048)", x.road(1, 2048), 0);
        Check.due("mirrored: road(11, 13)", x.road(11, 13), 0);
        Check.due("multiplied alone: road(3, 33)", x.road(3, 33), 4);
        Check.due("road(33, 3)", x.road(33, 3), 4);
        Check.due("road(3, 5)", x.road(3, 5), 1);
        Check.due("road(2049, 5)", x.road(2049, 5), 1);
        Check.due("a NOTE that is not in it: road(7, 273)", x.road(7, 273), 6);
        Check.due("all but one: road(2047, 4094)", x.road(2047, 4094), 0);
        Check.says("12: NONE: SETS that can't be, or of unlike numbers of NOTES");
        for (int[] bad : new int[][] {{0, 1}, {1, 0}, {1, 3}, {4095, 2047}, {-1, -1}, {4096, 1}, {1, 4096}, {MIN, 1},
            {MAX, MAX}, {4096, 4096}}) {
            Check.due("road(" + bad[0] + ", " + bad[1] + ")", x.road(bad[0], bad[1]), -1);
        }
        x.octave(3);
        Check.due("road(3, 6) of 3", x.road(3, 6), 0);
        Check.due("road(8, 1) of 3", x.road(8, 1), -1);
    }

    private static long rising(int n) {
        return RISING & (1L << 4 * n) - 1;
    }

    private static void row() {
        for (int n = 3; n <= 12; n++) {
            ToneHouse x = house(n);
            Check.says("13: SLOTS 0 .. 5, N " + n);
            for (int s = 0; s < 6; s++) {
                Check.due("row(" + s + ", ..)", x.row(s, rising(n)), true);
                Check.due("its last note", x.form(s, 0, 0, n - 1), n - 1);
            }
            Check.says("13: the first the lowest, N " + n);
            Check.due("row(0, 1 0 2 ..)", x.row(0, rising(n) ^ 0x11L), true);
            Check.due("note 0", x.form(0, 0, 0, 0), 1);
            Check.due("note 1", x.form(0, 0, 0, 1), 0);
            Check.says("13: what is behind N does not count, N " + n);
            for (long behind : new long[] {-1L, 1L, 15L, 1L << 63 - 4 * n}) {
                Check.due("row(1, ..) with " + behind + " behind", x.row(1, rising(n) | behind << 4 * n), true);
                Check.due("its last note", x.form(1, 0, 0, n - 1), n - 1);
                Check.due("forms like itself", x.about(1, 0), 2);
            }
        }
    }

    private static void rowRefused() {
        for (int n = 3; n <= 12; n++) {
            ToneHouse x = house(n);
            x.row(5, rising(n));
            Check.says("13: false, and nothing is done, if there is no such SLOT, N " + n);
            for (int s : new int[] {-1, 6, 7, MIN, MAX}) {
                Check.due("row(" + s + ", ..)", x.row(s, rising(n)), false);
            }
            for (int s = 0; s < 5; s++) {
                Check.due("form(" + s + ", 0, 0, 0)", x.form(s, 0, 0, 0), -1);
            }
            Check.says("13: false, and nothing is done, if that is no ROW, N " + n);
            int last = 4 * (n - 1);
            long others = rising(n) & (1L << last) - 1;
            for (long bad : new long[] {others | (long) n << last, others | 15L << last, others, others | (n - 2L) << last,
                rising(n) | 15L, 0L, -1L, Long.MIN_VALUE, Long.MAX_VALUE, rising(n) << 4}) {
                Check.due("row(5, " + bad + ")", x.row(5, bad), false);
                Check.due("the row stays", x.form(5, 0, 0, n - 1), n - 1);
                Check.due("row(4, " + bad + ")", x.row(4, bad), false);
                Check.due("the slot stays empty", x.form(4, 0, 0, 0), -1);
            }
        }
    }

    private static void form() {
        for (int n = 3; n <= 12; n++) {
            ToneHouse x = house(n);
            x.row(0, rising(n));
            Check.says("14: KIND 0 x + t, 1 t - x (modulo N); 2, 3: these backwards, N " + n);
            int[][] due = {{0, 0, 0, 0}, {0, 0, n - 1, n - 1}, {0, n - 1, 0, n - 1}, {0, n - 1, n - 1, n - 2},
                {1, 0, 0, 0}, {1, 0, n - 1, 1}, {1, n - 1, 0, n - 1}, {1, n - 1, n - 1, 0},
                {2, 0, 0, n - 1}, {2, 0, n - 1, 0}, {2, n - 1, 0, n - 2}, {2, n - 1, n - 1, n - 1},
                {3, 0, 0, 1}, {3, 0, n - 1, 0}, {3, n - 1, 0, 0}, {3, n - 1, n - 1, n - 1}};
            for (int[] one : due) {
                String call = "form(0, " + one[0] + ", " + one[1] + ", " + one[2] + ")";
                Check.due(call, x.form(0, one[0], one[1], one[2]), one[3]);
            }
            Check.says("14: NONE if there is none such, N " + n);
            for (int bad : new int[] {-1, n, -n, MIN, MAX}) {
                Check.due("t " + bad, x.form(0, 0, bad, 0), -1);
                Check.due("i " + bad, x.form(0, 0, 0, bad), -1);
            }
            for (int bad : new int[] {-1, 4, MIN, MAX}) {
                Check.due("KIND " + bad, x.form(0, bad, 0, 0), -1);
            }
            for (int bad : new int[] {-1, 1, 5, 6, MIN, MAX}) {
                Check.due("SLOT " + bad, x.form(bad, 0, 0, 0), -1);
            }
        }
    }

    private static void about() {
        ToneHouse x = new ToneHouse();
        Check.says("15: how many of its 4 N FORMS are the ROW itself, how many unlike FORMS it has");
        x.row(0, RISING);
        x.row(1, 0x6789AB543210L);
        x.row(2, RISING ^ 0x11L);
        int[][] due = {{2, 24}, {2, 24}, {1, 48}};
        for (int s = 0; s < 3; s++) {
            Check.due("about(" + s + ", 0)", x.about(s, 0), due[s][0]);
            Check.due("about(" + s + ", 2)", x.about(s, 2), due[s][1]);
            Check.due("about(" + s + ", 1)", x.about(s, 1), 0);
        }
        Check.says("15: whether it is FULL (1, 0)");
        Check.due("pick(3, 3855)", x.pick(3, 3855), true);
        Check.due("about(3, 1)", x.about(3, 1), 1);
        Check.says("15: NONE if there is none, or another what");
        for (int bad : new int[] {-1, 3, 4, MIN, MAX}) {
            Check.due("about(0, " + bad + ")", x.about(0, bad), -1);
        }
        for (int bad : new int[] {-1, 5, 6, MIN, MAX}) {
            for (int what = 0; what < 3; what++) {
                Check.due("about(" + bad + ", " + what + ")", x.about(bad, what), -1);
            }
        }
        x.octave(3);
        x.row(5, 0x102L);
        Check.due("about(5, 0) of 3", x.about(5, 0), 2);
        Check.due("about(5, 1) of 3", x.about(5, 1), 0);
        Check.due("about(5, 2) of 3", x.about(5, 2), 6);
    }

    private static void partners() {
        ToneHouse x = house(4);
        x.row(0, 0x3210L);
        Check.says("16: as a number (t counts 2 to the t)");
        int[] due = {4, 8, 1, 2};
        for (int kind = 0; kind < 4; kind++) {
            Check.due("partners(0, " + kind + ") of 4", x.partners(0, kind), due[kind]);
        }
        x.octave(12);
        x.row(0, RISING);
        Check.due("the highest t: partners(0, 1)", x.partners(0, 1), 2048);
        Check.says("16: FORMS whose first N / 2 NOTES have none in common");
        x.octave(6);
        x.row(0, 0x542310L);
        Check.due("none such: partners(0, 0) of 6", x.partners(0, 0), 0);
        Check.due("partners(0, 1) of 6", x.partners(0, 1), 32);
        Check.says("16: NONE: no ROW, no KIND, N odd");
        for (int bad : new int[] {-1, 4, MIN, MAX}) {
            Check.due("partners(0, " + bad + ")", x.partners(0, bad), -1);
        }
        for (int bad : new int[] {-1, 1, 5, 6, MIN, MAX}) {
            Check.due("partners(" + bad + ", 0)", x.partners(bad, 0), -1);
        }
        for (int n = 3; n <= 12; n++) {
            x.octave(n);
            x.row(0, rising(n));
            for (int kind = 0; kind < 4; kind++) {
                Check.due("N " + n + " can have some", x.partners(0, kind) != -1, n % 2 == 0);
            }
        }
    }

    private static void split() {
        for (int n = 3; n <= 12; n++) {
            ToneHouse x = house(n);
            x.row(0, rising(n));
            Check.says("17: NONE: d does not go into N, N " + n);
            for (int d = -n; d <= 3 * n; d++) {
                boolean goes = d > 0 && d <= n && n % d == 0;
                Check.due("split(0, " + d + ")", x.split(0, d), goes ? 1 : -1);
            }
            Check.due("split(0, MIN)", x.split(0, MIN), -1);
            Check.due("split(0, MAX)", x.split(0, MAX), -1);
            Check.says("17: NONE: no ROW, N " + n);
            for (int bad : new int[] {-1, 1, 5, 6, MIN, MAX}) {
                Check.due("split(" + bad + ", 1)", x.split(bad, 1), -1);
            }
        }
        Check.says("17: all parts are of one CLASS of GROUP 1: 1, 0");
        ToneHouse x = house(6);
        x.row(0, 0x542310L);
        Check.due("mirrored parts, split(0, 3)", x.split(0, 3), 1);
        Check.due("pairs one apart, split(0, 2)", x.split(0, 2), 1);
        x.row(1, 0x415320L);
        Check.due("the last part alone is another, split(1, 2)", x.split(1, 2), 0);
        x.octave(12);
        x.row(2, 0xBA9865437210L);
        Check.due("multiplied parts, split(2, 2)", x.split(2, 2), 0);
    }

    private static void full() {
        Check.says("18: How many FULL ROWS begin with 0");
        int[] due = {0, 2, 0, 4, 0, 24, 0, 288, 0, 3856};
        ToneHouse x = new ToneHouse();
        for (int n = 12; n >= 3; n--) {
            x.octave(n);
            Check.due("full() of " + n, x.full(), due[n - 3]);
        }
        x.octave(12);
        Check.due("full() of 12 again", x.full(), 3856);
    }

    private static void rowIs(ToneHouse x, int s, int... notes) {
        for (int i = 0; i < notes.length; i++) {
            Check.due("note " + i, x.form(s, 0, 0, i), notes[i]);
        }
    }

    private static void pick() {
        ToneHouse x = new ToneHouse();
        Check.says("19: the k-th of these, ordered by their NOTES, the lesser first");
        Check.due("pick(0, 0)", x.pick(0, 0), true);
        rowIs(x, 0, 0, 1, 3, 2, 7, 10, 8, 4, 11, 5, 9, 6);
        Check.due("pick(5, 3855)", x.pick(5, 3855), true);
        rowIs(x, 5, 0, 11, 9, 10, 5, 2, 4, 8, 1, 7, 3, 6);
        Check.says("19: false, and nothing is done, if there is none such");
        for (int k : new int[] {3856, 3857, -1, MIN, MAX}) {
            Check.due("pick(5, " + k + ")", x.pick(5, k), false);
            Check.due("the row stays", x.rank(5), 3855);
            Check.due("pick(3, " + k + ")", x.pick(3, k), false);
            Check.due("the slot stays empty", x.about(3, 1), -1);
        }
        for (int s : new int[] {-1, 6, MIN, MAX}) {
            Check.due("pick(" + s + ", 0)", x.pick(s, 0), false);
        }
        for (int n = 3; n <= 11; n += 2) {
            x.octave(n);
            x.row(0, rising(n));
            Check.due("pick(0, 0) of " + n, x.pick(0, 0), false);
            Check.due("the row of " + n + " stays", x.form(0, 0, 0, 1), 1);
        }
        x.octave(4);
        Check.due("pick(0, 1) of 4", x.pick(0, 1), true);
        rowIs(x, 0, 0, 3, 1, 2);
        Check.due("pick(0, 2) of 4", x.pick(0, 2), false);
        rowIs(x, 0, 0, 3, 1, 2);
    }

    private static void rank() {
        ToneHouse x = new ToneHouse();
        Check.says("20: The number of the ROW among these");
        for (int k : new int[] {0, 1, 347, 1927, 1928, 3854, 3855}) {
            x.pick(k % 6, k);
            Check.due("rank of " + k, x.rank(k % 6), k);
        }
        Check.says("20: NONE if it is none of them");
        x.row(0, RISING);
        Check.due("a row that is not full", x.rank(0), -1);
        x.octave(4);
        x.row(1, 0x2310L);
        Check.due("0 1 3 2", x.rank(1), 0);
        x.row(1, 0x3021L);
        Check.due("1 2 0 3, full from 1 on", x.rank(1), -1);
        Check.due("it is full", x.about(1, 1), 1);
        for (int s : new int[] {-1, 0, 5, 6, MIN, MAX}) {
            Check.due("rank(" + s + ")", x.rank(s), -1);
        }
        x.octave(5);
        x.row(1, 0x43210L);
        Check.due("N odd", x.rank(1), -1);
    }

    private static void beatsRefused(String promise, int c, int set) {
        ToneHouse x = new ToneHouse();
        Check.says(promise + ": NONE if one can't be");
        Check.due("fills(" + c + ", " + set + ")", x.fills(c, set), -1);
        Check.due("fill(" + c + ", " + set + ", 0)", x.fill(c, set, 0), -1);
        Check.due("pure(" + c + ", " + set + ")", x.pure(c, set), -1);
        Check.due("period(" + c + ", " + set + ")", x.period(c, set), -1);
    }

    private static void fills() {
        for (int c : new int[] {1, 25, 0, -1, 26, 31, 32, 33, 34, MIN, MAX}) {
            beatsRefused("21: C 2 .. 24", c, 1);
        }
        for (int c = 2; c <= 24; c++) {
            for (int set : new int[] {0, 1 << c, 1 << c | 1, -1, MIN, MAX}) {
                beatsRefused("21: not empty, of beats 0 .. C - 1", c, set);
            }
            ToneHouse x = new ToneHouse();
            Check.says("21: C 2 .. 24, C " + c);
            int all = (1 << c) - 1;
            Check.due("one beat", x.fills(c, 1), 1);
            Check.due("the last beat", x.fills(c, 1 << c - 1), 1);
            Check.due("all beats", x.fills(c, all), c);
            Check.due("all but one", x.fills(c, all - 1), c == 2 ? 1 : 0);
            Check.says("21: modulo C, C " + c);
            Check.due("the first beat and the last", x.fills(c, 1 | 1 << c - 1), c % 2 == 0 ? 2 : 0);
        }
        ToneHouse x = new ToneHouse();
        Check.says("21: of just one beat in just one way");
        Check.due("fills(6, 5)", x.fills(6, 5), 0);
        Check.due("fills(4, 7)", x.fills(4, 7), 0);
        Check.due("fills(24, 65793)", x.fills(24, 65793), 6561);
    }

    private static void fill() {
        for (int c = 2; c <= 24; c++) {
            ToneHouse x = new ToneHouse();
            int all = (1 << c) - 1;
            Check.says("22: The k-th of these as a number, rising; NONE if there is none such, C " + c);
            Check.due("the last beat", x.fill(c, 1 << c - 1, 0), all);
            for (int k = 0; k < c; k++) {
                Check.due("all beats, " + k, x.fill(c, all, k), 1 << k);
            }
            for (int k : new int[] {c, -1, MIN, MAX}) {
                Check.due("all beats, " + k, x.fill(c, all, k), -1);
            }
            if (c % 2 == 0) {
                Check.due("round the end, 0", x.fill(c, 1 | 1 << c - 1, 0), 0x555555 & all);
                Check.due("round the end, 1", x.fill(c, 1 | 1 << c - 1, 1), 0xAAAAAA & all);
                Check.due("round the end, 2", x.fill(c, 1 | 1 << c - 1, 2), -1);
            }
        }
        ToneHouse x = new ToneHouse();
        Check.due("fill(4, 7, 0)", x.fill(4, 7, 0), -1);
        Check.due("fill(24, 65793, 0)", x.fill(24, 65793, 0), 255);
        Check.due("fill(24, 65793, 6560)", x.fill(24, 65793, 6560), 16711680);
        Check.due("fill(24, 65793, 6561)", x.fill(24, 65793, 6561), -1);
    }

    private static void pure() {
        Check.says("23: PURE: both have PERIOD C");
        for (int c = 2; c <= 24; c++) {
            ToneHouse x = new ToneHouse();
            Check.due("one beat of " + c, x.pure(c, 1), 0);
            Check.due("all beats of " + c, x.pure(c, (1 << c) - 1), 0);
            Check.due("two beats of " + c, x.pure(c, 3), 0);
        }
    }

    private static void period() {
        Check.says("24: the least p from 1 on for which it is the same p beats later (C at most)");
        for (int c = 2; c <= 24; c++) {
            ToneHouse x = new ToneHouse();
            int all = (1 << c) - 1;
            Check.due("all of " + c, x.period(c, all), 1);
            Check.due("the first of " + c, x.period(c, 1), c);
            Check.due("the last of " + c, x.period(c, 1 << c - 1), c);
            Check.due("all but the last of " + c, x.period(c, all >> 1), c);
            Check.due("every other of " + c, x.period(c, 0xAAAAAA & all), c % 2 == 0 ? 2 : c);
            if (c % 2 == 0) {
                Check.due("half of " + c, x.period(c, 1 | 1 << c / 2), c / 2);
            }
        }
    }
}
