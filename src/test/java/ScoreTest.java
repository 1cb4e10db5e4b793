import java.util.Random;

/** Promises 25 to 37: fixed texts with their faults, and many made ones against a reader of its own. */
public final class ScoreTest {
    private static final String NOTES = "0 1 2 3 4 5 6 7 8 9 10 11";
    private static final String ROW_A = "row a = " + NOTES + " ;\n";

    public static void main(String[] args) {
        tapes();
        goodTexts();
        faults();
        faultsLast();
        scores();
        fits();
        keeps();
        octaveEmpties();
        writing();
        madeTexts();
        Check.finish();
    }

    private static void tapes() {
        ToneHouse x = new ToneHouse();
        for (int i = 1; i <= 40; i++) {
            Check.due("25: feed " + i, x.feed(i, -1, 0, Integer.MIN_VALUE, 5), 20 * i);
        }
        Check.due("25: feed beyond 800", x.feed(1, 2, 3, 4, 5), -1);
        Check.due("26: end(801)", x.end(801), -1);
        Check.due("26: end(-1)", x.end(-1), -1);
        Check.due("26: end(MIN)", x.end(Integer.MIN_VALUE), -1);
        Check.due("26: end(MAX)", x.end(Integer.MAX_VALUE), -1);
        Check.due("26: end(800)", x.end(800), 800);
        Check.due("26: end(781)", x.end(781), 781);
        Check.due("25: 19 are too few", x.feed(1, 2, 3, 4, 5), -1);
        Check.due("26: end(780)", x.end(780), 780);
        Check.due("25: feed up to 800", x.feed(1, 2, 3, 4, 5), 800);
        Check.due("27: strange bytes", x.load(), -1);
        Check.due("28: they can't stand there", x.fault(0), 1);
        Check.due("28: from the first on", x.fault(1), 0);
        Check.due("26: nothing is left", x.end(1), -1);
        Check.due("26: end(0)", x.end(0), 0);
    }

    private static void goodTexts() {
        ToneHouse x = new ToneHouse();
        String[] texts = {"", "   \n ", ROW_A, "row a=" + NOTES + ";", "\n row\na\n=\n00 01 2 3 4 5 6 7 8 09 10 11\n;  ",
            "row p=" + NOTES + ";voice p p 0at 0;", "row r=" + NOTES + ";row i=" + NOTES + ";voice i r11at40;voice r u 00at07;"};
        int[][] due = {{0, 0}, {0, 0}, {1, 0}, {1, 0}, {1, 0}, {1, 1}, {2, 2}};
        for (int i = 0; i < texts.length; i++) {
            Check.due("27: load of " + texts[i], Texts.loadText(x, texts[i]), due[i][1]);
            Check.due("28: fault(0)", x.fault(0), 0);
            Check.due("28: fault(1)", x.fault(1), -1);
            Check.due("29: rows", x.score(0), due[i][0]);
            Check.due("29: voices", x.score(1), due[i][1]);
        }
        int[][] voices = {{1, 2, 11, 40}, {0, 3, 0, 7}};
        for (int v = 0; v < 2; v++) {
            for (int what = 0; what < 4; what++) {
                Check.due("30: voice(" + v + ", " + what + ")", x.voice(v, what), voices[v][what]);
            }
        }
        Check.due("29: beats", x.score(3), 52);
    }

    private static void expectFault(String text, int fault, int place) {
        ToneHouse x = new ToneHouse();
        Check.due("27: load of a sound text", Texts.loadText(x, ROW_A + "voice a p 0 at 3 ;"), 1);
        Check.due("27: load of " + text, Texts.loadText(x, text), -1);
        Check.due("28: fault of " + text, x.fault(0), fault);
        Check.due("28: place of " + text, x.fault(1), place);
        for (int what : new int[] {Integer.MIN_VALUE, -1, 2, Integer.MAX_VALUE}) {
            Check.due("28: fault(" + what + ")", x.fault(what), -1);
        }
        Check.due("27: the score stays", x.voice(0, 3), 3);
        Check.due("27: with its row", x.score(0), 1);
        Check.due("27: load of nothing", x.load(), 0);
        Check.due("28: no fault then", x.fault(0), 0);
        Check.due("28: nor a place", x.fault(1), -1);
    }

    private static void faults() {
        int v = ROW_A.length();
        expectFault("rows", 1, 0);
        expectFault("  rowa = 0", 1, 2);
        expectFault("Row a", 1, 0);
        expectFault("rowA = 0", 1, 0);
        expectFault("a", 1, 0);
        expectFault("at", 1, 0);
        expectFault("7", 1, 0);
        expectFault(";", 1, 0);
        expectFault("\t", 1, 0);
        expectFault("\u00e9", 1, 0);
        expectFault("row", 1, 3);
        expectFault("row  \n", 1, 6);
        expectFault("row A = 0", 1, 4);
        expectFault("row at = 0", 1, 4);
        expectFault("row row = 0", 1, 4);
        expectFault("row 1", 1, 4);
        expectFault("row a 0", 1, 6);
        expectFault("row a = ;", 1, 8);
        expectFault("row a = = 0", 1, 8);
        expectFault("row a = 000", 1, 8);
        expectFault("row a = 12", 3, 8);
        expectFault("row a = 99", 3, 8);
        expectFault("row a = 0 1 0 2", 3, 12);
        expectFault("row a = 0 1 00 2", 3, 12);
        expectFault("row a = 0;", 3, 9);
        expectFault("row a = 0 b", 1, 10);
        expectFault("row a = 0b", 1, 9);
        expectFault("row a = 0 , 1", 1, 10);
        expectFault("row a = " + NOTES + " 11 ;", 3, 34);
        expectFault("row a = " + NOTES + " 12 ;", 3, 34);
        expectFault("row a = " + NOTES, 1, 33);
        expectFault("row a = " + NOTES + "\n\n", 1, 35);
        expectFault(ROW_A + "row a", 2, v + 4);
        expectFault(ROW_A + ";", 1, v);
        expectFault(ROW_A + "row b = " + NOTES, 1, v + 33);
    }

    private static void faultsLast() {
        int v = ROW_A.length();
        expectFault("voice a", 2, 6);
        expectFault("voice A", 1, 6);
        expectFault("voice", 1, 5);
        expectFault(ROW_A + "voice b", 2, v + 6);
        expectFault(ROW_A + "voice p p", 2, v + 6);
        expectFault(ROW_A + "voice ap 0", 1, v + 6);
        expectFault(ROW_A + "voice a a 0", 1, v + 8);
        expectFault(ROW_A + "voice a 0", 1, v + 8);
        expectFault(ROW_A + "voice a P 0", 1, v + 8);
        expectFault(ROW_A + "voice a p at", 1, v + 10);
        expectFault(ROW_A + "voice a p 12 at", 3, v + 10);
        expectFault(ROW_A + "voice a p 112 at", 1, v + 10);
        expectFault(ROW_A + "voice a p 11 a", 1, v + 13);
        expectFault(ROW_A + "voice a p 11 at ;", 1, v + 16);
        expectFault(ROW_A + "voice a p 11 at 41", 3, v + 16);
        expectFault(ROW_A + "voice a p 11 at 040", 1, v + 16);
        expectFault(ROW_A + "voice a p 11 at 40", 1, v + 18);
        expectFault(ROW_A + "voice a p 11 at 40 40", 1, v + 19);
        String voice = "voice a p 11 at 40 ;";
        expectFault(ROW_A + voice + "row b = 0", 1, v + 20);
        expectFault(ROW_A + voice.repeat(8) + "voice", 4, v + 160);
        expectFault(ROW_A + voice.repeat(8) + "row", 1, v + 160);
        expectFault(ROW_A + voice.repeat(8) + "  voices", 1, v + 162);
        StringBuilder six = new StringBuilder();
        for (char letter = 'a'; letter <= 'f'; letter++) {
            six.append("row ").append(letter).append("=").append(NOTES).append(";");
        }
        expectFault(six + " row", 4, six.length() + 1);
        expectFault(six + " row a", 4, six.length() + 1);
        expectFault(six + voice + "row", 1, six.length() + voice.length());
        ToneHouse x = new ToneHouse();
        Check.due("27: six rows and eight voices", Texts.loadText(x, six + voice.repeat(8)), 8);
        Check.due("29: six rows", x.score(0), 6);
        ToneHouse small = new ToneHouse();
        small.octave(3);
        Check.due("27: a row of three", Texts.loadText(small, "row z=2 0 1;voice z u 2 at 40;"), 1);
        Check.due("27: a note of four", Texts.loadText(small, "row z=2 0 3;"), -1);
        Check.due("28: it is none", small.fault(0), 3);
        Check.due("28: at its place", small.fault(1), 10);
        Check.due("27: a turn of four", Texts.loadText(small, "row z=2 0 1;voice z u 3 at 40;"), -1);
        Check.due("28: it can't be", small.fault(0), 3);
        Check.due("28: at its place", small.fault(1), 22);
    }

    private static void scores() {
        ToneHouse x = new ToneHouse();
        Texts.loadText(x, ROW_A + "voice a p 0 at 0;voice a p 0 at 0;voice a p 0 at 0;voice a i 0 at 2;");
        Check.due("29: each pair and beat counts", x.score(2), 36 + 3);
        Check.due("30: clashes of a voice", x.voice(0, 4), 25);
        Check.due("30: clashes of the mirrored voice", x.voice(3, 4), 3);
        Check.due("29: beats", x.score(3), 14);
        for (int bad : new int[] {Integer.MIN_VALUE, -1, 4, 5, Integer.MAX_VALUE}) {
            Check.due("29: score(" + bad + ")", x.score(bad), -1);
            Check.due("30: voice(" + bad + ", 0)", x.voice(bad, 0), -1);
            Check.due("31: sings(" + bad + ", 0)", x.sings(bad, 0), -1);
            if (bad != 4) {
                Check.due("30: voice(0, " + bad + ")", x.voice(0, bad), -1);
            }
        }
        Check.due("32: chord(0)", x.chord(0), 1);
        Check.due("32: chord(1)", x.chord(1), 2);
        Check.due("32: chord(2)", x.chord(2), 5);
        Check.due("32: chord(7)", x.chord(7), 128);
        Check.due("32: chord(13)", x.chord(13), 2);
        for (int beat : new int[] {Integer.MIN_VALUE, Integer.MIN_VALUE + 1, -1, 14, Integer.MAX_VALUE}) {
            Check.due("32: chord(" + beat + ")", x.chord(beat), 0);
            Check.due("31: sings(3, " + beat + ")", x.sings(3, beat), -1);
        }
        Check.due("31: sings(3, 1)", x.sings(3, 1), -1);
        Check.due("31: sings(3, 2)", x.sings(3, 2), 0);
        Check.due("31: sings(3, 13)", x.sings(3, 13), 1);
    }

    private static void fits() {
        ToneHouse x = new ToneHouse();
        Texts.loadText(x, ROW_A + "voice a p 0 at 5;voice a p 0 at 5;");
        for (int most : new int[] {Integer.MIN_VALUE, -1, 41, Integer.MAX_VALUE}) {
            Check.due("33: fit(0, " + most + ")", x.fit(0, most), -1);
            Check.due("33: nothing is done", x.voice(0, 3), 5);
        }
        for (int v : new int[] {Integer.MIN_VALUE, -1, 2, Integer.MAX_VALUE}) {
            Check.due("33: fit(" + v + ", 0)", x.fit(v, 0), -1);
        }
        Check.due("33: fit(1, 40)", x.fit(1, 40), 0);
        Check.due("33: at the least beat", x.voice(1, 3), 0);
        Check.due("33: the other stays", x.voice(0, 3), 5);
        Check.due("33: fit(0, 0)", x.fit(0, 0), 12);
        Check.due("33: where it must", x.voice(0, 3), 0);
        Check.due("33: its clashes are those", x.voice(0, 4), 12);
    }

    private static void keeps() {
        ToneHouse x = new ToneHouse();
        Texts.loadText(x, "row b = 0 2 4 6 8 10 1 3 5 7 9 11;voice b u 3 at 9;");
        for (int s = 0; s < 6; s++) {
            Check.due("34: keep(0, " + s + ")", x.keep(0, s), true);
            for (int i = 0; i < 12; i++) {
                Check.due("34: note " + i, x.form(s, 0, 0, i), x.sings(0, 9 + i));
            }
        }
        Check.due("34: backwards and mirrored", x.form(0, 0, 0, 0), 4);
        for (int bad : new int[] {Integer.MIN_VALUE, -1, 6, Integer.MAX_VALUE}) {
            Check.due("34: keep(0, " + bad + ")", x.keep(0, bad), false);
            Check.due("34: keep(" + bad + ", 0)", x.keep(bad, 0), false);
        }
        Check.due("34: keep(1, 0)", x.keep(1, 0), false);
        Check.due("34: the slot stays", x.form(0, 0, 0, 0), 4);
    }

    private static void octaveEmpties() {
        ToneHouse x = new ToneHouse();
        Texts.loadText(x, ROW_A + "voice a p 0 at 5;");
        int length = x.write();
        Texts.loadText(x, ROW_A + "voice a p 0 at 5;");
        Texts.feedAll(x, "12345");
        x.octave(12);
        Check.due("2: the same N leaves the score", x.score(1), 1);
        x.octave(11);
        for (int what = 0; what < 4; what++) {
            Check.due("2: the score is empty: " + what, x.score(what), 0);
        }
        Check.due("2: no voice is left", x.voice(0, 0), -1);
        Check.due("32: nothing is sung", x.chord(5), 0);
        Check.due("26: the tape is left", x.end(5), 5);
        Check.due("36: so is what was written", x.out(length - 1), 10);
        Check.due("35: the empty score", x.write(), 0);
    }

    private static void writing() {
        ToneHouse x = new ToneHouse();
        Check.due("35: write() of nothing", x.write(), 0);
        Texts.feedAll(x, "row a");
        Check.due("37: take() of nothing", x.take(), 0);
        Check.due("37: the tape is empty then", x.end(1), -1);
        Texts.loadText(x, "row b=11 10 9 8 7 6 5 4 3 2 1 00;row a=" + NOTES + ";voice a u 11at40;voice b r 01 at 07;");
        String want = "row b = 11 10 9 8 7 6 5 4 3 2 1 0 ;\n" + ROW_A + "voice a u 11 at 40 ;\nvoice b r 1 at 7 ;\n";
        Check.due("35: " + Texts.outText(x), Texts.outText(x).equals(want), true);
        Texts.loadText(x, "");
        Check.due("36: what is out stays", x.out(0), 'r');
        Texts.feedAll(x, "some bytes");
        Check.due("37: take()", x.take(), want.length());
        Check.due("26: the tape has them", x.end(want.length() + 1), -1);
        Check.due("36: they are still out", x.out(want.length() - 1), 10);
        Check.due("27: load", x.load(), 2);
        Check.due("35: the same again", Texts.outText(x).equals(want), true);
        Check.due("37: take() again", x.take(), want.length());
        Check.due("25: feed behind it", x.feed(0, 0, 0, 0, 0), want.length() + 20);
    }

    private static void madeTexts() {
        Random random = new Random(11);
        int sound = 0;
        int[] faulty = new int[5];
        for (int round = 0; round < 4000; round++) {
            int n = 3 + random.nextInt(10);
            ToneHouse x = new ToneHouse();
            x.octave(n);
            String text = MadeTexts.spoiled(random, MadeTexts.madeText(random, n));
            PlainScore want = new PlainScore(n, text);
            faulty[want.fault]++;
            Check.due("27: load of " + text, Texts.loadText(x, text), want.fault == 0 ? want.voices.size() : -1);
            Check.due("28: fault of " + text, x.fault(0), want.fault);
            Check.due("28: place of " + text, x.fault(1), want.place);
            if (want.fault == 0) {
                sound++;
                compare(x, want);
                mend(x, want, random);
            }
        }
        System.out.println(sound + " sound texts; faults 1 to 4: " + faulty[1] + " " + faulty[2] + " " + faulty[3] + " " + faulty[4]);
    }

    private static void compare(ToneHouse x, PlainScore want) {
        int all = 0;
        int beats = 0;
        for (int v = 0; v < want.voices.size(); v++) {
            for (int what = 0; what < 4; what++) {
                Check.due("30: voice " + v + ", " + what, x.voice(v, what), want.voices.get(v)[what]);
            }
            Check.due("30: clashes of " + v, x.voice(v, 4), want.clashes(v));
            all += want.clashes(v);
            beats = Math.max(beats, want.voices.get(v)[3] + want.n);
        }
        Check.due("29: rows", x.score(0), want.rows.size());
        Check.due("29: clashes", x.score(2), all / 2);
        Check.due("29: beats", x.score(3), beats);
        for (int beat = -1; beat < 54; beat++) {
            int chord = 0;
            for (int v = 0; v < want.voices.size(); v++) {
                int note = want.sung(v, beat);
                Check.due("31: sings " + v + ", " + beat, x.sings(v, beat), note);
                chord |= note >= 0 ? 1 << note : 0;
            }
            Check.due("32: chord " + beat, x.chord(beat), chord);
        }
        Check.due("35: written is " + want.written(), Texts.outText(x).equals(want.written()), true);
    }

    private static void mend(ToneHouse x, PlainScore want, Random random) {
        for (int v = 0; v < want.voices.size(); v++) {
            int most = random.nextInt(41);
            int[] one = want.voices.get(v);
            int best = 0;
            int fewest = Integer.MAX_VALUE;
            for (int begin = 0; begin <= most; begin++) {
                one[3] = begin;
                if (want.clashes(v) < fewest) {
                    fewest = want.clashes(v);
                    best = begin;
                }
            }
            one[3] = best;
            Check.due("33: fit " + v + ", " + most, x.fit(v, most), fewest);
            Check.due("33: begins at", x.voice(v, 3), best);
            Check.due("34: keep " + v, x.keep(v, v % 6), true);
            for (int i = 0; i < want.n; i++) {
                Check.due("34: kept note " + i, x.form(v % 6, 0, 0, i), want.sung(v, best + i));
            }
        }
        Check.due("35: mended is " + want.written(), Texts.outText(x).equals(want.written()), true);
        Check.due("37: take", x.take(), want.written().length());
        Check.due("27: load again", x.load(), want.voices.size());
    }
}
