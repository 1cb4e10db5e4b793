/** The sentences of promises 25 to 37, and of the texts, that name a boundary case, with calls on both sides of each. */
public final class ScoreEdgesTest {
    private static final int MIN = Integer.MIN_VALUE;
    private static final int MAX = Integer.MAX_VALUE;
    private static final String NOTES = "0 1 2 3 4 5 6 7 8 9 10 11";
    private static final String ROW_A = "row a = " + NOTES + " ;\n";

    public static void main(String[] args) {
        feed();
        end();
        load();
        loadFaulty();
        fault();
        tokens();
        neighbours();
        blanks();
        misplaced();
        letters();
        notes();
        turnsAndBeats();
        rowsAndVoices();
        firstFault();
        score();
        voice();
        sings();
        chord();
        fit();
        fitLast();
        keep();
        write();
        out();
        take();
        Check.finish();
    }

    private static ToneHouse loaded(int n, String text) {
        ToneHouse x = new ToneHouse();
        x.octave(n);
        Check.due("load of " + text, Texts.loadText(x, text) != -1, true);
        return x;
    }

    private static void sound(int n, String text, int voices) {
        ToneHouse x = new ToneHouse();
        x.octave(n);
        Check.due("load of " + text, Texts.loadText(x, text), voices);
        Check.due("fault(0) of " + text, x.fault(0), 0);
        Check.due("fault(1) of " + text, x.fault(1), -1);
    }

    private static void faulty(int n, String text, int fault, int place) {
        ToneHouse x = new ToneHouse();
        x.octave(n);
        Check.due("load of " + text, Texts.loadText(x, text), -1);
        Check.due("fault(0) of " + text, x.fault(0), fault);
        Check.due("fault(1) of " + text, x.fault(1), place);
    }

    private static String rows(int count) {
        StringBuilder made = new StringBuilder();
        for (int r = 0; r < count; r++) {
            made.append("row ").append((char) ('a' + r)).append(" = ").append(NOTES).append(" ;\n");
        }
        return made.toString();
    }

    private static int bytes(String text) {
        return text.charAt(0) << 24 | text.charAt(1) << 16 | text.charAt(2) << 8 | text.charAt(3);
    }

    private static void feed() {
        ToneHouse x = new ToneHouse();
        x.octave(3);
        Check.says("25: the highest of each int first");
        Check.due("feed", x.feed(bytes("row "), bytes("a = "), bytes("2 1 "), bytes("0 ; "), bytes("voic")), 20);
        Check.due("feed", x.feed(bytes("e a "), bytes("p 0 "), bytes("at 4"), bytes("0 ; "), bytes("    ")), 40);
        Check.due("load()", x.load(), 1);
        Check.due("voice(0, 3)", x.voice(0, 3), 40);
        Check.due("sings(0, 40)", x.sings(0, 40), 2);
        Check.says("25: Twenty bytes come behind those on the TAPE");
        x.feed(bytes("row "), bytes("bbbb"), 0, 0, 0);
        x.end(5);
        Check.due("feed", x.feed(bytes("=1 0"), bytes(" 2; "), bytes("    "), bytes("    "), bytes("    ")), 25);
        Check.due("load()", x.load(), 0);
        Check.due("score(0)", x.score(0), 1);
        Check.says("25: bytes of any worth");
        for (int strange : new int[] {0, -1, MIN, MAX}) {
            Check.due("feed", x.feed(bytes("    "), strange, strange, strange, strange), 20);
            Check.due("load()", x.load(), -1);
            Check.due("fault(1)", x.fault(1), 4);
        }
        feedFull();
    }

    private static void feedFull() {
        ToneHouse x = new ToneHouse();
        x.octave(3);
        Texts.feedAll(x, "row a = 0 1 2 ;     ");
        int blank = bytes("    ");
        Check.says("25: NONE, and none come, if there would be more than 800");
        for (int i = 2; i <= 40; i++) {
            Check.due("feed " + i, x.feed(blank, blank, blank, blank, blank), 20 * i);
        }
        Check.due("feed beyond 800", x.feed(-1, -1, -1, -1, -1), -1);
        Check.due("end(801)", x.end(801), -1);
        Check.due("end(781)", x.end(781), 781);
        Check.due("feed beyond 800 by 1", x.feed(-1, -1, -1, -1, -1), -1);
        Check.due("end(782)", x.end(782), -1);
        Check.due("end(780)", x.end(780), 780);
        Check.due("feed up to 800", x.feed(blank, blank, blank, blank, blank), 800);
        Check.due("load()", x.load(), 0);
        Check.due("score(0)", x.score(0), 1);
        Check.due("feed onto the empty tape", x.feed(blank, blank, blank, blank, blank), 20);
    }

    private static void end() {
        ToneHouse x = new ToneHouse();
        Check.says("26: n; NONE if there are not so many, or n is below 0");
        Check.due("end(0)", x.end(0), 0);
        Check.due("end(1)", x.end(1), -1);
        x.feed(1, 2, 3, 4, 5);
        for (int n : new int[] {21, -1, 40, MIN, MAX}) {
            Check.due("end(" + n + ")", x.end(n), -1);
            Check.due("end(20) after end(" + n + ")", x.end(20), 20);
        }
        Check.says("26: The TAPE has its first n bytes alone");
        Check.due("end(19)", x.end(19), 19);
        Check.due("end(20)", x.end(20), -1);
        Check.due("end(0)", x.end(0), 0);
        Check.due("end(0)", x.end(0), 0);
        Check.due("end(1)", x.end(1), -1);
        Check.due("load()", x.load(), 0);
        Texts.feedAll(x, ROW_A + "?");
        Check.due("end ahead of the last", x.end(ROW_A.length()), ROW_A.length());
        Check.due("load()", x.load(), 0);
        Check.due("score(0)", x.score(0), 1);
    }

    private static void load() {
        Check.says("27: The TAPE, empty then, is read as a SCORE");
        ToneHouse x = loaded(12, ROW_A + "voice a p 0 at 7 ;");
        Check.due("end(1)", x.end(1), -1);
        Check.due("load() of nothing", x.load(), 0);
        Check.due("score(0)", x.score(0), 0);
        Check.due("score(1)", x.score(1), 0);
        Check.due("voice(0, 3)", x.voice(0, 3), -1);
        Check.says("27: how many VOICES");
        String voice = "voice a p 0 at 0 ;";
        for (int count = 0; count <= 8; count++) {
            Check.due("load of " + count, Texts.loadText(x, ROW_A + voice.repeat(count)), count);
            Check.due("score(1)", x.score(1), count);
        }
        Check.due("load of rows alone", Texts.loadText(x, rows(6)), 0);
        Check.due("score(0)", x.score(0), 6);
    }

    private static void loadFaulty() {
        Check.says("27: NONE: a FAULT (the SCORE stays)");
        ToneHouse x = loaded(12, rows(2) + "voice b u 11 at 40 ; voice a i 3 at 2 ;");
        String[] texts = {"?", "row", "row c = 0 ;", "row c = " + NOTES + " ;\nrow c", "row c = " + NOTES + " ;\nvoice d",
            rows(6) + "row g", ROW_A + "voice a p 0 at 0 ;".repeat(9), ROW_A + "voice a p 0 at 5 ; voice a p 0 at 41 ;"};
        for (String text : texts) {
            Check.due("load of " + text, Texts.loadText(x, text), -1);
            Check.due("the tape is empty", x.end(1), -1);
            Check.due("score(0)", x.score(0), 2);
            Check.due("score(1)", x.score(1), 2);
            Check.due("voice(0, 0)", x.voice(0, 0), 1);
            Check.due("voice(0, 1)", x.voice(0, 1), 3);
            Check.due("voice(0, 3)", x.voice(0, 3), 40);
            Check.due("voice(1, 2)", x.voice(1, 2), 3);
            Check.due("sings(1, 2)", x.sings(1, 2), 3);
            Check.due("write()", x.write(), 2 * ROW_A.length() + "voice b u 11 at 40 ;\nvoice a i 3 at 2 ;\n".length());
        }
    }

    private static void fault() {
        ToneHouse x = new ToneHouse();
        Check.says("28: 0, NONE ahead of any");
        Check.due("fault(0)", x.fault(0), 0);
        Check.due("fault(1)", x.fault(1), -1);
        Texts.feedAll(x, "?");
        Check.due("fault(0) of a fed fault", x.fault(0), 0);
        Check.says("28: NONE for another what");
        for (int what : new int[] {-1, 2, 3, MIN, MAX}) {
            Check.due("fault(" + what + ")", x.fault(what), -1);
        }
        x.load();
        for (int what : new int[] {-1, 2, 3, MIN, MAX}) {
            Check.due("fault(" + what + ")", x.fault(what), -1);
        }
        Check.says("28: Of the latest load()");
        Check.due("fault(0)", x.fault(0), 1);
        Check.due("fault(1)", x.fault(1), 0);
        Texts.feedAll(x, ROW_A + "row a");
        x.write();
        Check.due("fault(0) ahead of the next load()", x.fault(0), 1);
        x.load();
        Check.due("fault(0)", x.fault(0), 2);
        Check.due("fault(1)", x.fault(1), ROW_A.length() + 4);
        x.octave(3);
        Check.due("fault(0) in another octave", x.fault(0), 2);
        x.take();
        x.load();
        Check.due("fault(0)", x.fault(0), 0);
        Check.due("fault(1)", x.fault(1), -1);
    }

    private static void tokens() {
        Check.says("4.: letters as many as stand together (others are none)");
        faulty(3, "rows a = 0 1 2 ;", 1, 0);
        faulty(3, "ro a = 0 1 2 ;", 1, 0);
        faulty(3, "rowa = 0 1 2 ;", 1, 0);
        faulty(3, "ROW a = 0 1 2 ;", 1, 0);
        faulty(3, "rOw a = 0 1 2 ;", 1, 0);
        faulty(3, "row ab = 0 1 2 ;", 1, 4);
        faulty(3, "row aA = 0 1 2 ;", 1, 4);
        faulty(3, "row a=0 1 2;voic a p 0 at 0;", 1, 12);
        faulty(3, "row a=0 1 2;voices a p 0 at 0;", 1, 12);
        faulty(3, "row a=0 1 2;voice ap 0 at 0;", 1, 18);
        faulty(3, "row a=0 1 2;voice a pp 0 at 0;", 1, 20);
        faulty(3, "row a=0 1 2;voice a p 0 a t 0;", 1, 24);
        faulty(3, "row a=0 1 2;voice a p 0 att 0;", 1, 24);
        Check.says("4.: digits as many as stand together (NUMBERS, of 1 or 2 digits; others are none)");
        sound(3, "row a = 00 01 02 ; voice a p 00 at 00 ;", 1);
        faulty(3, "row a = 000 1 2 ;", 1, 8);
        faulty(3, "row a = 012 ;", 1, 8);
        faulty(12, "row a = 10 11 100", 1, 14);
        faulty(12, "row a = 0000000000000000000000000000000001", 1, 8);
        faulty(12, "row a = 4294967296", 1, 8);
        faulty(3, "row a = 0 1 2 ; voice a p 002 at 0 ;", 1, 26);
        faulty(3, "row a = 0 1 2 ; voice a p 2 at 040 ;", 1, 31);
        Check.says("4.: p, i, r, u are FORMS 0 .. 3 where one is asked for, else LETTERS");
        for (int kind = 0; kind < 4; kind++) {
            char letter = "piru".charAt(kind);
            ToneHouse x = loaded(3, "row " + letter + " = 0 1 2 ; voice " + letter + " " + letter + " 0 at 0 ;");
            Check.due("voice(0, 1)", x.voice(0, 1), kind);
            Check.due("voice(0, 0)", x.voice(0, 0), 0);
        }
        for (char letter = 'a'; letter <= 'z'; letter++) {
            String text = "row a = 0 1 2 ; voice a " + letter + " 0 at 0 ;";
            if ("piru".indexOf(letter) < 0) {
                faulty(3, text, 1, 24);
            } else {
                sound(3, text, 1);
            }
        }
    }

    private static void neighbours() {
        Check.says("4.: LETTERS: one small letter");
        for (int b = 0; b < 256; b++) {
            String text = "row " + (char) b + " = 0 1 2 ;";
            if (b >= 'a' && b <= 'z') {
                sound(3, text, 0);
            } else {
                faulty(3, text, 1, b == 32 || b == 10 ? 6 : 4);
            }
        }
        Check.says("4.: what is no TOKEN, and no blank, can't stand there");
        for (int b = 0; b < 256; b++) {
            boolean digit = b >= '0' && b <= '9';
            boolean letter = b >= 'a' && b <= 'z' || b >= 'A' && b <= 'Z';
            if (b == 32 || b == 10) {
                sound(3, "row a = 0 1 2" + (char) b + ";", 0);
            } else if (digit) {
                faulty(3, "row a = 0 1 2" + (char) b + ";", 3, 12);
            } else if (b != ';') {
                faulty(3, "row a = 0 1 2" + (char) b + ";", 1, 13);
            }
            String behind = "row" + (char) b + "a = 0 1 2 ;";
            if (b != 32 && b != 10) {
                faulty(3, behind, 1, letter ? 0 : 3);
            }
        }
    }

    private static void blanks() {
        Check.says("4.: Blanks (32, 10) between any two");
        sound(3, "row a=0 1 2;voice a p0at0;", 1);
        sound(3, "row\na\n=\n0\n1\n2\n;\nvoice\na\np\n0\nat\n0\n;", 1);
        sound(3, " \n row  a \n\n = 0   1 2;\n\n\nvoice a p 0 at 0 ; \n ", 1);
        sound(3, "", 0);
        sound(3, " ", 0);
        sound(3, "\n", 0);
        sound(3, " ".repeat(800), 0);
        String text = "row a = 0 1 2 ;";
        sound(3, text + " ".repeat(800 - text.length()), 0);
        sound(3, " ".repeat(800 - text.length()) + text, 0);
        faulty(3, " ".repeat(799) + "?", 1, 799);
        faulty(3, "row" + "\n".repeat(797), 1, 800);
        faulty(3, "row a = 0 1 2 ;\t", 1, 15);
        faulty(3, "row a = 0 1 2 ;\r\n", 1, 15);
        faulty(3, "r ow a = 0 1 2 ;", 1, 0);
        faulty(12, "row a = 1 0 1 1", 3, 12);
    }

    private static void misplaced() {
        Check.says("4.: 1 what can't stand there (the end, too: the text's length)");
        String[] parts = {"row", "a", "=", "0", "1", "2", ";", "voice", "a", "p", "0", "at", "0", ";"};
        String[] others = {"row", "voice", "at", "z", "=", ";", "1", "?", "Z", "123"};
        String[] due = {"row|voice|", "z|", "=|", "1|", "1|;|", "1|;|", "1|;|", "row|voice|", "z|", "", "1|", "at|", "1|",
            ";|"};
        StringBuilder before = new StringBuilder();
        for (int i = 0; i < parts.length; i++) {
            for (String other : others) {
                misplacedOne(before.toString(), other, due[i].contains(other + "|"));
            }
            if (i != 0 && i != 7) {
                faulty(3, before.toString(), 1, before.length());
                faulty(3, before.toString().trim(), 1, before.length() - 1);
            }
            before.append(parts[i]).append(' ');
        }
        sound(3, before.toString(), 1);
        faulty(3, before + "row b = 0 1 2 ;", 1, before.length());
        faulty(3, before + ";", 1, before.length());
        sound(3, before + before.substring(16), 2);
    }

    /** What can stand there may be at fault by its worth, but then not by fault 1 at its place. */
    private static void misplacedOne(String before, String other, boolean can) {
        ToneHouse x = new ToneHouse();
        x.octave(3);
        Texts.loadText(x, before + other);
        boolean at = x.fault(0) == 1 && x.fault(1) == before.length();
        Check.due("fault 1 at the last of " + before + other, at, !can);
    }

    private static void letters() {
        Check.says("4.: 2 (at a LETTER) a ROW that is there already; none that is there");
        faulty(12, ROW_A + "row a = " + NOTES + " ;", 2, ROW_A.length() + 4);
        faulty(12, rows(5) + "row e", 2, 5 * ROW_A.length() + 4);
        faulty(12, rows(5) + "row a", 2, 5 * ROW_A.length() + 4);
        sound(12, rows(5) + "row f = " + NOTES + " ;", 0);
        faulty(12, "voice a p 0 at 0 ;", 2, 6);
        faulty(12, ROW_A + "voice b p 0 at 0 ;", 2, ROW_A.length() + 6);
        faulty(12, rows(6) + "voice g p 0 at 0 ;", 2, 6 * ROW_A.length() + 6);
        sound(12, rows(6) + "voice f p 0 at 0 ;", 1);
        Check.says("4.: of this text, not of the SCORE that is there");
        ToneHouse x = loaded(12, ROW_A);
        Check.due("voice alone", Texts.loadText(x, "voice a p 0 at 0 ;"), -1);
        Check.due("fault(0)", x.fault(0), 2);
        Check.due("row a again", Texts.loadText(x, ROW_A + "voice a p 0 at 0 ;"), 1);
    }

    private static void notes() {
        for (int n = 3; n <= 12; n++) {
            StringBuilder all = new StringBuilder("row a =");
            for (int i = n - 1; i >= 0; i--) {
                all.append(' ').append(i);
            }
            Check.says("4.: 3 (at a NUMBER) a NOTE that is none, or was there in the ROW, N " + n);
            sound(n, all + " ;", 0);
            faulty(n, "row a = " + n, 3, 8);
            faulty(n, "row a = 99", 3, 8);
            faulty(n, "row a = 0 " + n, 3, 10);
            faulty(n, "row a = 1 1", 3, 10);
            faulty(n, "row a = 1 01", 3, 10);
            faulty(n, "row a = 0 0", 3, 10);
            faulty(n, all + " 0 ;", 3, all.length() + 1);
            faulty(n, all + " " + n + " ;", 3, all.length() + 1);
            Check.says("4.: (at the ; of a ROW) NOTES are missing, N " + n);
            String short1 = all.substring(0, all.length() - 2);
            faulty(n, short1 + " ;", 3, short1.length() + 1);
            faulty(n, short1 + ";", 3, short1.length());
            faulty(n, "row a = 1 ; ?", 3, 10);
            faulty(n, short1 + " ", 1, short1.length() + 1);
            faulty(n, short1 + " row", 1, short1.length() + 1);
            Check.says("4.: a NOTE may be in another ROW, too, N " + n);
            sound(n, all + " ; " + all.toString().replace('a', 'b') + " ;", 0);
        }
    }

    private static void turnsAndBeats() {
        for (int n = 3; n <= 12; n++) {
            StringBuilder row = new StringBuilder("row a =");
            for (int i = 0; i < n; i++) {
                row.append(' ').append(i);
            }
            row.append(" ; voice a u ");
            int at = row.length();
            Check.says("4.: 3 t above N - 1, N " + n);
            sound(n, row + "0 at 0 ;", 1);
            sound(n, row + "" + (n - 1) + " at 0 ;", 1);
            faulty(n, row + "" + n + " at 0 ;", 3, at);
            faulty(n, row + "99 at 0 ;", 3, at);
            Check.says("4.: 3 a beat above 40, N " + n);
            sound(n, row + "0 at 40 ;", 1);
            faulty(n, row + "0 at 41 ;", 3, at + 5);
            faulty(n, row + "0 at 99 ;", 3, at + 5);
        }
    }

    private static void rowsAndVoices() {
        int length = 6 * ROW_A.length();
        Check.says("4.: 4 (at the WORD) the 7th ROW");
        sound(12, rows(6), 0);
        faulty(12, rows(6) + "row g = " + NOTES + " ;", 4, length);
        faulty(12, rows(6) + " row", 4, length + 1);
        faulty(12, rows(6) + "rows", 1, length);
        Check.says("4.: 4 (at the WORD) the 9th VOICE");
        String voice = "voice f p 0 at 0 ;";
        sound(12, rows(6) + voice.repeat(8), 8);
        faulty(12, rows(6) + voice.repeat(8) + voice, 4, length + 8 * voice.length());
        faulty(12, rows(6) + voice.repeat(8) + "\nvoice", 4, length + 8 * voice.length() + 1);
        faulty(12, rows(6) + voice.repeat(8) + "voicevoice", 1, length + 8 * voice.length());
    }

    private static void firstFault() {
        Check.says("4.: the first by its place");
        faulty(3, "row a = 3 ? ;", 3, 8);
        faulty(3, "row a = 0 ? 3 ;", 1, 10);
        faulty(3, "row a = 0 ; row a = 0", 3, 10);
        faulty(3, "voice a ?", 2, 6);
        faulty(3, "row a = 0 1 2 ; row a = 0 0", 2, 20);
        faulty(3, "row a = 0 1 2 ; voice a p 3 at 41 ;", 3, 26);
        faulty(3, "row a = 0 1 2 ; voice b p 3 at 41 ;", 2, 22);
        faulty(12, rows(6) + "row a = ?", 4, 6 * ROW_A.length());
        Check.says("4.: at one place the least");
        faulty(3, "row a = ;", 1, 8);
        faulty(3, "row a = 0 1 222 ;", 1, 12);
        String voice = "voice a p 0 at 0 ;";
        faulty(12, rows(6) + voice + "row", 1, 6 * ROW_A.length() + voice.length());
        faulty(12, rows(6) + voice.repeat(8) + "row", 1, 6 * ROW_A.length() + 8 * voice.length());
    }

    private static void score() {
        Check.says("29: Of the SCORE: 0 ROWS, 1 VOICES, 2 CLASHES, 3 beats (up to the last NOTE; 0 without VOICES)");
        int[][] due = {{0, 0, 0, 0}, {1, 0, 0, 0}, {1, 1, 0, 3}, {1, 1, 0, 43}, {1, 2, 3, 43}, {6, 8, 84, 3}};
        String row = "row a=0 1 2;";
        String six = row + "row b=0 1 2;row c=0 1 2;row d=0 1 2;row e=0 1 2;row f=0 1 2;";
        String[] texts = {"", row, row + "voice a p 0 at 0;", row + "voice a p 0 at 40;",
            row + "voice a p 1 at 40;voice a p 1 at 40;", six + "voice f p 0 at 0;".repeat(8)};
        for (int i = 0; i < texts.length; i++) {
            ToneHouse x = loaded(3, texts[i]);
            for (int what = 0; what < 4; what++) {
                Check.due("score(" + what + ") of " + texts[i], x.score(what), due[i][what]);
            }
            for (int bad : new int[] {-1, 4, 5, MIN, MAX}) {
                Check.due("score(" + bad + ") of " + texts[i], x.score(bad), -1);
            }
        }
        Check.says("29: each pair and beat counts");
        Check.due("at its first and last beat", loaded(3, row + "voice a p 0 at 0;voice a p 2 at 2;").score(2), 1);
        Check.due("one beat too late", loaded(3, row + "voice a p 0 at 0;voice a p 2 at 3;").score(2), 0);
        Check.due("three at one beat", loaded(3, row + "voice a p 2 at 0;".repeat(3)).score(2), 9);
        Check.due("beats of an early and a late voice", loaded(3, row + "voice a p 0 at 9;voice a p 2 at 3;").score(3), 12);
    }

    private static void voice() {
        ToneHouse x = loaded(12, rows(6) + "voice a p 0 at 0;voice f u 11 at 40;" + "voice c r 5 at 7;".repeat(6));
        Check.says("30: Of VOICE v: 0 its ROW (0 ..), 1 KIND, 2 t, 3 B, 4 its CLASHES");
        int[][] due = {{0, 0, 0, 0, 0}, {5, 3, 11, 40, 0}, {2, 2, 5, 7, 60}};
        for (int what = 0; what < 5; what++) {
            for (int v = 0; v < 8; v++) {
                Check.due("voice(" + v + ", " + what + ")", x.voice(v, what), due[Math.min(v, 2)][what]);
            }
        }
        Check.says("30: NONE if there is none such, or another what");
        for (int bad : new int[] {-1, 8, 9, MIN, MAX}) {
            for (int what = 0; what < 5; what++) {
                Check.due("voice(" + bad + ", " + what + ")", x.voice(bad, what), -1);
            }
        }
        for (int bad : new int[] {-1, 5, 6, MIN, MAX}) {
            Check.due("voice(7, " + bad + ")", x.voice(7, bad), -1);
        }
        Texts.loadText(x, ROW_A + "voice a p 0 at 0;");
        Check.due("voice(1, 0) of one", x.voice(1, 0), -1);
        Check.due("voice(7, 3) of one", x.voice(7, 3), -1);
    }

    private static void sings() {
        Check.says("31: NONE if it sings none");
        for (int n = 3; n <= 12; n++) {
            StringBuilder row = new StringBuilder("row a=");
            for (int i = 0; i < n; i++) {
                row.append(i).append(' ');
            }
            ToneHouse x = loaded(n, row + ";voice a p 0 at 0;voice a i 0 at 40;voice a r 0 at 1;");
            int[][] due = {{0, 0, 0}, {0, n - 1, n - 1}, {0, -1, -1}, {0, n, -1}, {1, 39, -1}, {1, 40, 0}, {1, 41, n - 1},
                {1, 39 + n, 1}, {1, 40 + n, -1}, {2, 0, -1}, {2, 1, n - 1}, {2, n, 0}, {2, n + 1, -1}};
            for (int[] one : due) {
                Check.due("sings(" + one[0] + ", " + one[1] + ") of " + n, x.sings(one[0], one[1]), one[2]);
            }
            for (int beat : new int[] {MIN, MIN + 1, MIN + 39, MIN + 40, MIN + 41, MAX, MAX - 40}) {
                Check.due("sings(1, " + beat + ") of " + n, x.sings(1, beat), -1);
            }
            for (int v : new int[] {-1, 3, 7, 8, MIN, MAX}) {
                Check.due("sings(" + v + ", 0) of " + n, x.sings(v, 0), -1);
            }
        }
    }

    private static void chord() {
        Check.says("32: The SET of NOTES that are sung at a beat (0 for none)");
        ToneHouse x = loaded(12, ROW_A + "voice a p 0 at 2;voice a p 0 at 2;voice a i 11 at 5;");
        int[][] due = {{-1, 0}, {0, 0}, {1, 0}, {2, 1}, {4, 4}, {5, 8 | 2048}, {13, 2048 | 8}, {14, 4}, {16, 1}, {17, 0},
            {MIN, 0}, {MIN + 2, 0}, {MIN + 5, 0}, {MAX, 0}, {MAX - 5, 0}};
        for (int[] one : due) {
            Check.due("chord(" + one[0] + ")", x.chord(one[0]), one[1]);
        }
        Check.due("chord(0) without VOICES", loaded(12, ROW_A).chord(0), 0);
    }

    private static void fit() {
        String text = ROW_A + "voice a p 0 at 0;voice a p 0 at 1;voice a p 0 at 9;";
        Check.says("33: the least of the beats 0 .. most at which it has the fewest CLASHES: how many it has then");
        int[][] due = {{0, 12, 0}, {1, 12, 0}, {2, 0, 2}, {3, 0, 2}, {40, 0, 2}};
        for (int[] one : due) {
            ToneHouse x = loaded(12, text);
            Check.due("fit(2, " + one[0] + ")", x.fit(2, one[0]), one[1]);
            Check.due("it begins", x.voice(2, 3), one[2]);
            Check.due("its clashes", x.voice(2, 4), one[1]);
            Check.says("33: the others as they are");
            Check.due("voice(0, 3)", x.voice(0, 3), 0);
            Check.due("voice(1, 3)", x.voice(1, 3), 1);
        }
        Check.says("33: a voice alone");
        ToneHouse alone = loaded(12, ROW_A + "voice a p 0 at 40;");
        Check.due("fit(0, 40)", alone.fit(0, 40), 0);
        Check.due("it begins", alone.voice(0, 3), 0);
        Check.says("33: NONE, and nothing is done: no such VOICE or most");
        ToneHouse x = loaded(12, text);
        for (int most : new int[] {-1, 41, 42, MIN, MAX}) {
            Check.due("fit(2, " + most + ")", x.fit(2, most), -1);
            Check.due("it begins", x.voice(2, 3), 9);
        }
        for (int v : new int[] {-1, 3, 7, 8, MIN, MAX}) {
            Check.due("fit(" + v + ", 0)", x.fit(v, 0), -1);
            Check.due("score(2)", x.score(2), 0);
        }
        Check.due("fit(0, 0) without VOICES", loaded(12, ROW_A).fit(0, 0), -1);
    }

    /** Seven voices that clash with the eighth wherever it begins ahead of beat 40. */
    private static void fitLast() {
        Check.says("33: the beats 0 .. most (40 at most)");
        ToneHouse x = loaded(11, "row a=0 1 2 3 4 5 6 7 8 9 10;voice a r 7 at 1;voice a r 9 at 16;voice a i 7 at 22;"
            + "voice a i 6 at 0;voice a i 0 at 29;voice a r 2 at 31;voice a i 0 at 14;voice a p 0 at 3;");
        Check.due("fit(7, 39) finds no quiet beat", x.fit(7, 39) > 0, true);
        Check.due("fit(7, 40)", x.fit(7, 40), 0);
        Check.due("it begins", x.voice(7, 3), 40);
        Check.due("score(3)", x.score(3), 51);
    }

    private static void keep() {
        ToneHouse x = loaded(12, ROW_A + "voice a p 0 at 0;voice a u 3 at 9;");
        Check.says("34: The ROW of VOICE v, in its FORM, comes into SLOT s");
        for (int s = 0; s < 6; s++) {
            Check.due("keep(1, " + s + ")", x.keep(1, s), true);
            Check.due("its first note", x.form(s, 0, 0, 0), 4);
            Check.due("its last note", x.form(s, 0, 0, 11), 3);
        }
        Check.says("34: false, and nothing is done, if there is none such");
        for (int bad : new int[] {-1, 2, 7, 8, MIN, MAX}) {
            Check.due("keep(" + bad + ", 0)", x.keep(bad, 0), false);
            Check.due("slot 0 stays", x.form(0, 0, 0, 0), 4);
        }
        for (int bad : new int[] {-1, 6, MIN, MAX}) {
            Check.due("keep(0, " + bad + ")", x.keep(0, bad), false);
            Check.due("slot 0 stays", x.form(0, 0, 0, 0), 4);
            Check.due("slot 5 stays", x.form(5, 0, 0, 0), 4);
        }
        Check.says("34: the SCORE and the SLOT go their own ways then");
        x.row(0, 0xBA9876543201L);
        Check.due("sings(1, 9)", x.sings(1, 9), 4);
        Texts.loadText(x, "");
        Check.due("slot 5 without the SCORE", x.form(5, 0, 0, 0), 4);
        Check.due("keep(0, 0) without VOICES", x.keep(0, 0), false);
        Check.due("slot 0 stays", x.form(0, 0, 0, 0), 1);
    }

    private static void writtenIs(int n, String text, String want) {
        ToneHouse x = loaded(n, text);
        Check.due("write() of " + text, x.write(), want.length());
        String got = Texts.outText(x);
        Check.due("written is " + got, got.equals(want), true);
    }

    private static void write() {
        Check.says("35: ROWS, then VOICES, as they came, single blanks between all TOKENS, byte 10 behind each ;");
        writtenIs(12, "", "");
        writtenIs(12, "row a=" + NOTES + ";", ROW_A);
        writtenIs(3, "row z=2 1 0;row a=02 00 01;voice a p 0 at 0;voice z u 02 at 09;",
            "row z = 2 1 0 ;\nrow a = 2 0 1 ;\nvoice a p 0 at 0 ;\nvoice z u 2 at 9 ;\n");
        writtenIs(11, "row i=10 9 8 7 6 5 4 3 2 1 0;voice i i 10 at 10;voice i r 9 at 40;",
            "row i = 10 9 8 7 6 5 4 3 2 1 0 ;\nvoice i i 10 at 10 ;\nvoice i r 9 at 40 ;\n");
        String most = rows(6) + "voice f u 11 at 40 ;\n".repeat(8);
        writtenIs(12, most, most);
        Check.due("the longest has 384 bytes", most.length(), 384);
        Check.says("35: The SCORE is OUT, as it is then");
        ToneHouse x = loaded(3, "row a=0 1 2;voice a p 0 at 40;");
        Check.due("write()", x.write(), 36);
        x.fit(0, 0);
        Check.due("out(31) ahead of the next write()", x.out(31), '4');
        Check.due("write()", x.write(), 35);
        Check.due("out(31)", x.out(31), '0');
        Check.due("out(34)", x.out(34), 10);
        Check.due("out(35) is gone", x.out(35), -1);
    }

    private static void out() {
        ToneHouse x = new ToneHouse();
        Check.says("36: Byte i of OUT; NONE if there is none");
        for (int i : new int[] {0, 1, -1, MIN, MAX, 799, 800}) {
            Check.due("out(" + i + ") ahead of any write()", x.out(i), -1);
        }
        Texts.loadText(x, ROW_A);
        Check.due("out(0) ahead of write()", x.out(0), -1);
        Check.due("write()", x.write(), 36);
        Check.due("out(0)", x.out(0), 'r');
        Check.due("out(34)", x.out(34), ';');
        Check.due("out(35)", x.out(35), 10);
        for (int i : new int[] {36, 37, -1, MIN, MAX, 799, 800}) {
            Check.due("out(" + i + ")", x.out(i), -1);
        }
        x.octave(3);
        x.write();
        Check.due("out(0) of an empty score", x.out(0), -1);
    }

    private static void take() {
        ToneHouse x = new ToneHouse();
        Check.says("37: OUT becomes the TAPE: how many");
        Texts.feedAll(x, "row");
        Check.due("take() ahead of any write()", x.take(), 0);
        Check.due("end(1)", x.end(1), -1);
        Check.due("load()", x.load(), 0);
        String most = rows(6) + "voice f u 11 at 40 ;\n".repeat(8);
        Texts.loadText(x, most);
        x.write();
        Texts.feedAll(x, " ".repeat(800));
        Check.due("take() in place of a full tape", x.take(), 384);
        Check.due("end(385)", x.end(385), -1);
        Check.due("end(384)", x.end(384), 384);
        Check.due("feed behind it", x.feed(-1, 0, 0, 0, 0), 404);
        Check.due("load()", x.load(), -1);
        Check.due("fault(1)", x.fault(1), 384);
        Check.due("take() again", x.take(), 384);
        Check.due("load()", x.load(), 8);
        Check.due("take(), with another SCORE", x.take(), 384);
        Check.due("load()", x.load(), 8);
        x.end(0);
        x.load();
        Check.due("the SCORE is empty", x.score(0), 0);
        Check.due("take() of what was OUT", x.take(), 384);
        Check.due("load()", x.load(), 8);
        Check.due("score(0)", x.score(0), 6);
    }
}
