/** Promises 24 to 28, and what the terms say of THE TEXT: each sentence that names an edge, with a test of its own. */
public final class TextEdgeTest extends Lutes {
    private static final String LETTERS = "abcdefghij";

    private static void flawOf(LuteTabs x, String text, int want) {
        typeAll(x, text);
        due("flaw of " + text, x.flaw(), want);
    }

    private static LuteTabs withCourses(int c) {
        LuteTabs x = new LuteTabs();
        x.courses(c);
        return x;
    }

    // ---- what the terms say of THE TEXT

    @Says(promise = 0, words = "it is RIGHT, if it is such a text of some CHORDS")
    private static void someChords() {
        LuteTabs x = withCourses(2);
        flawOf(x, "", 0);
        flawOf(x, "0:a-;", NONE);
        flawOf(x, "0:a-;1:a-;", NONE);
        // Fifteen chords are the most that 80 bytes may hold.
        StringBuilder most = new StringBuilder();
        for (int t = 0; t < 10; t++) most.append(t).append(":a-;");
        for (int t = 10; t < 15; t++) most.append(t).append(":a-;");
        due.holds("80 bytes", most.length() == 80);
        flawOf(x, most.toString(), NONE);
    }

    @Says(promise = 0, words = "of C letters each")
    private static void lettersOfEachC() {
        for (int c = 2; c <= 5; c++) {
            LuteTabs x = withCourses(c);
            for (int n = 0; n <= 7; n++) {
                String row = n == 0 ? "" : "a" + "-".repeat(n - 1);
                flawOf(x, "0:" + row + ";", n == c ? NONE : 2 + Math.min(n, c));
            }
        }
    }

    @Says(promise = 0, words = "TIMES 0 to 199")
    private static void timesOfTheText() {
        LuteTabs x = withCourses(2);
        for (int t = 0; t <= 199; t++) {
            if (t % 50 == 0) x = withCourses(2);
            x.wipe();
            if (t >= 100) x.type('1');
            if (t >= 10) x.type('0' + t / 10 % 10);
            x.type('0' + t % 10);
            x.type(':');
            due("time " + t, x.flaw(), t < 10 ? 2 : t < 100 ? 3 : 4);
        }
        LuteTabs y = withCourses(2);
        flawOf(y, "200", 2);
        flawOf(y, "20", 2);
        flawOf(y, "1990", 3);
        flawOf(y, "1000", 3);
        flawOf(y, "999", 2);
        flawOf(y, "-1:", 0);
        flawOf(y, ":", 0);
        flawOf(y, "00", 1);
        flawOf(y, "01", 1);
        flawOf(y, "0 ", 1);
    }

    /** Whether figures are the beginning of the figures of a time behind another. */
    private static boolean mayBegin(String figures, int ahead) {
        for (int t = ahead + 1; t <= 199; t++) {
            if (Integer.toString(t).startsWith(figures)) return true;
        }
        return false;
    }

    @Says(promise = 0, words = "each greater than the one ahead of it")
    private static void timesBehindEachOther() {
        for (int ahead = 0; ahead <= 199; ahead++) {
            LuteTabs x = withCourses(2);
            String first = ahead + ":a-;";
            typeAll(x, first);
            due("the first", x.flaw(), NONE);
            for (int next : new int[] {0, ahead - 1, ahead, ahead + 1, ahead * 10, ahead / 10, 1, 2, 10, 19, 100, 199, 200}) {
                if (next < 0) continue;
                String figures = Integer.toString(next);
                int at = first.length();
                while (at < first.length() + figures.length()
                    && mayBegin(figures.substring(0, at - first.length() + 1), ahead)) at++;
                boolean all = at == first.length() + figures.length();
                int want = all && next > ahead && next <= 199 ? at + 1 : at;
                LuteTabs y = withCourses(2);
                flawOf(y, first + figures + ":", want);
            }
        }
    }

    @Says(promise = 0, words = "letters for FRETS 0 to F")
    private static void lettersOfEachF() {
        for (int f = 1; f <= 9; f++) {
            LuteTabs x = withCourses(2);
            x.set(0, f);
            for (int fret = 0; fret <= 9; fret++) {
                flawOf(x, "0:-" + LETTERS.charAt(fret) + ";", fret <= f ? NONE : 3);
            }
            flawOf(x, "0:k-;", 2);
            flawOf(x, "0:`-;", 2);
            flawOf(x, "0:A-;", 2);
            flawOf(x, "0:0-;", 2);
        }
    }

    @Says(promise = 0, words = "of one to three of them in each")
    private static void oneToThreeLetters() {
        for (int c = 2; c <= 5; c++) {
            LuteTabs x = withCourses(c);
            flawOf(x, "0:" + "-".repeat(c) + ";", 2 + c - 1);
            flawOf(x, "0:" + "-".repeat(c - 1), 2 + c - 1);
            flawOf(x, "0:" + "-".repeat(c - 1) + "a;", NONE);
            flawOf(x, "0:" + "a".repeat(Math.min(c, 3)) + "-".repeat(Math.max(0, c - 3)) + ";", NONE);
            flawOf(x, "0:" + "a".repeat(c) + ";", c > 3 ? 5 : NONE);
        }
        LuteTabs five = withCourses(5);
        flawOf(five, "0:a-aa-;", NONE);
        flawOf(five, "0:a-aaa;", 6);
        flawOf(five, "0:aaa--;1:-----;", 14);
        flawOf(five, "0:aaa--;1:aaa--;", NONE);
    }

    @Says(promise = 0, words = "FLAW: the place of the first byte with which it is no longer the beginning of a RIGHT one of any length")
    private static void eachByteOfEach() {
        String right = "7:a-b;12:-cc;";
        for (int i = 0; i < right.length(); i++) {
            for (int b : new int[] {0, ' ', '!', '/', 'z', 127, 128, 255}) {
                LuteTabs x = withCourses(3);
                typeAll(x, right.substring(0, i));
                x.type(b);
                due("byte " + b + " at " + i, x.flaw(), i);
                x.type(right.charAt(i));
                due("more behind it", x.flaw(), i);
            }
        }
        // A text that 80 bytes can't make whole is still the beginning of one that is longer.
        LuteTabs full = withCourses(2);
        StringBuilder text = new StringBuilder();
        for (int t = 100; t < 111; t++) text.append(t).append(":a-;");
        text.append("111");
        due.holds("80 bytes", text.length() == 80);
        flawOf(full, text.toString(), 80);
        due("no byte more", full.type(':'), FULL);
    }

    @Says(promise = 0, words = "or how many bytes it has, if it is not RIGHT itself (an empty one: 0)")
    private static void eachBeginning() {
        String right = "7:a-b;12:-cc;";
        LuteTabs x = withCourses(3);
        due("empty", x.flaw(), 0);
        for (int i = 1; i <= right.length(); i++) {
            x.type(right.charAt(i - 1));
            due("of the first " + i, x.flaw(), i == 6 || i == 13 ? NONE : i);
        }
    }

    // ---- 24: text

    @Says(promise = 24, words = "TABLATURE: how many bytes (n = NONE), byte n.")
    private static void textEdges() {
        LuteTabs none = new LuteTabs();
        none.mend();
        due("of no chords", none.text(NONE), 0);
        LuteTabs x = withNotes(0, 21, 4, 0, 13, 4, 2, 17, 1);
        x.mend();
        String want = "0:b-c--;2:-c---;";
        due("bytes", x.text(NONE), 16);
        for (int i = 0; i < 16; i++) due("byte " + i, x.text(i), want.charAt(i));
        LuteTabs most = new LuteTabs();
        for (int i = 0; i < 14; i++) most.note(186 + i, 20, 1);
        most.mend();
        due("the most bytes", most.text(NONE), 140);
        StringBuilder all = new StringBuilder();
        for (int i = 0; i < 14; i++) all.append(186 + i).append(":a----;");
        dueText("all of them", tablature(most), all.toString());
        LuteTabs least = withCourses(2);
        least.note(0, 20, 1);
        least.mend();
        dueText("two courses", tablature(least), "0:a-;");
    }

    @Says(promise = 24, words = "BAD: n is below NONE; NOT: nothing is LAID, or it is WRONG; BAD: no such byte.")
    private static void textRefused() {
        LuteTabs x = withNotes(0, 20, 1);
        for (int round = 0; round < 2; round++) {
            due("below NONE comes first", x.text(-2), BAD);
            due("below NONE comes first", x.text(MIN), BAD);
            for (int n : new int[] {NONE, 0, 7, 8, MAX}) due("nothing laid, then wrong", x.text(n), NOT);
            x.lay(0, 1);
            x.set(0, 4);
            x.lay(0, 1);
        }
        due("wrong", x.wrong(), 1);
        x.lay(0, 0);
        due("bytes", x.text(NONE), 8);
        due("the last", x.text(7), ';');
        due("no such byte", x.text(8), BAD);
        due("no such byte", x.text(MAX), BAD);
        due("below NONE", x.text(-2), BAD);
        LuteTabs none = new LuteTabs();
        none.mend();
        due("no byte 0", none.text(0), BAD);
    }

    @Says(promise = 24, words = "NOT: nothing is LAID, or it is WRONG")
    private static void textOfEachWrong() {
        LuteTabs fret = withNotes(0, 20, 1);
        fret.lay(0, 2);
        due("a fret beyond", fret.text(NONE), NOT);
        fret.tune(0, 21);
        fret.lay(0, 0);
        due("a fret below 0", fret.text(NONE), NOT);
        LuteTabs course = alike(5);
        addNotes(course, 0, 10, 2, 1, 10, 1);
        course.lay(0, 0);
        due("two on one course", course.text(NONE), NOT);
        course.lay(1, 1);
        due("apart", course.text(NONE), 16);
        LuteTabs fingers = alike(5);
        addNotes(fingers, 0, 11, 9, 0, 12, 9, 0, 13, 9, 1, 14, 9, 1, 14, 9);
        layAll(fingers, 0, 1, 2, 3, 4);
        due("five fingers", fingers.text(NONE), NOT);
        LuteTabs span = alike(5);
        addNotes(span, 0, 11, 9, 0, 15, 9);
        layAll(span, 0, 1);
        due("beyond the span", span.text(NONE), NOT);
        span.set(1, 4);
        due("within a greater one", span.text(NONE), 8);
    }

    // ---- 25 to 28: type, wipe, flaw, back

    @Says(promise = 25, words = "A byte (0 to 255) comes behind THE TEXT: how many.")
    private static void typeEdges() {
        LuteTabs x = new LuteTabs();
        due("0", x.type(0), 1);
        due("255", x.type(255), 2);
        x.wipe();
        due("256 is no '0'", x.type(256 + '0'), BAD);
        for (int b = 0; b <= 255; b++) {
            if (b % 64 == 0) x = new LuteTabs();
            x.wipe();
            due("byte " + b, x.type(b), 1);
            if (b >= '0' - 1 && b <= '9' + 1) due("flaw", x.flaw(), b >= '0' && b <= '9' ? 1 : 0);
        }
    }

    @Says(promise = 25, words = "BAD; FULL.")
    private static void typeRefused() {
        LuteTabs x = withCourses(2);
        for (int b : new int[] {-1, 256, MIN, MAX}) due("byte " + b, x.type(b), BAD);
        due("none came", x.count(7), 0);
        for (int t = 10; t < 22; t++) {
            for (char ch : (t + ":a-;").toCharArray()) x.type(ch);
        }
        due("72 bytes", x.count(7), 72);
        for (char ch : "199:-a;".toCharArray()) x.type(ch);
        due("79 bytes", x.count(7), 79);
        due("right", x.flaw(), NONE);
        due("the last that may come", x.type(';'), 80);
        due("its place", x.flaw(), 79);
        due("full", x.type('0'), FULL);
        for (int b : new int[] {-1, 256}) due("BAD comes first", x.type(b), BAD);
        due("80 bytes", x.count(7), 80);
    }

    @Says(promise = 26, words = "THE TEXT is empty: how many bytes it had.")
    private static void wipeEdges() {
        for (int n : new int[] {0, 1, 79, 80}) {
            LuteTabs x = new LuteTabs();
            for (int i = 0; i < n; i++) x.type('0');
            due("wipe of " + n, x.wipe(), n);
            due("empty", x.count(7), 0);
            due("its flaw", x.flaw(), 0);
            due("again", x.wipe(), 0);
            due("room from 1 on", x.type('0'), 1);
            due("nothing of what was", x.flaw(), 1);
        }
    }

    @Says(promise = 27, words = "FLAW; NONE: THE TEXT is RIGHT.")
    private static void flawEdges() {
        LuteTabs x = new LuteTabs();
        flawOf(x, "199:--h--;", NONE);
        due("asked again", x.flaw(), NONE);
        x.set(0, 6);
        due("by F of now", x.flaw(), 6);
        x.set(0, 7);
        x.courses(4);
        due("by C of now", x.flaw(), 8);
        x.courses(5);
        due("right again", x.flaw(), NONE);
        due("the text stays", x.count(7), 10);
        due("and nothing is laid", x.count(4), 0);
    }

    @Says(promise = 28, words = "NOTES become those of THE TEXT, each with LAST 1, and they are LAID so: how many.")
    private static void backEdges() {
        LuteTabs x = withNotes(5, 70, 40, 6, 70, 40);
        x.tune(4, 60);
        x.set(0, 9);
        typeAll(x, "0:a----;199:---jj;");
        due("back", x.back(), 3);
        int[][] all = {{0, 20, 1, 0, 3, 0}, {199, 15, 1, 1, 3, 3}, {199, 69, 1, 1, 1, 4}};
        for (int n = 0; n < 3; n++) {
            for (int what = 0; what < 6; what++) due("note " + n + " " + what, x.info(n, what), all[n][what]);
        }
        due("those that were are not there", x.count(0), 3);
        due("again", x.back(), 3);
        due("notes", x.count(0), 3);
        dueText("tablature", tablature(x), "0:a----;199:---jj;");
    }

    @Says(promise = 28, words = "they are LAID so")
    private static void backOfLikePitches() {
        LuteTabs x = alike(5);
        typeAll(x, "3:-c-ab;9:--aaa;");
        due("back", x.back(), 6);
        // By pitch: a of course 3, b of course 4, c of course 1; like ones by course, as they are told.
        dueText("courses", laying(x), "341234");
        dueText("tablature", tablature(x), "3:-c-ab;9:--aaa;");
        typeAll(x, "0:h---b;");
        due("what is wrong is laid, too", x.back(), 2);
        due("wrong", x.wrong(), 1);
        dueText("courses", laying(x), "40");
    }

    @Says(promise = 28, words = "NOT: it is not RIGHT; FULL: they would be more than 14.")
    private static void backRefused() {
        LuteTabs x = new LuteTabs();
        due("the empty one", x.back(), NOT);
        typeAll(x, "0:a----");
        due("a beginning", x.back(), NOT);
        typeAll(x, "0:a-----;");
        due("flawed", x.back(), NOT);
        String twelve = "0:aaa--;1:aaa--;2:aaa--;3:aaa--;";
        typeAll(x, twelve + "4:aa---;");
        due("fourteen", x.back(), 14);
        typeAll(x, twelve + "4:aaa--;");
        due("fifteen", x.back(), FULL);
        due("the notes stay", x.count(0), 14);
        typeAll(x, twelve + "4:aaa--;5");
        due("NOT comes first", x.back(), NOT);
        LuteTabs most = withCourses(2);
        StringBuilder text = new StringBuilder();
        for (int t = 0; t < 15; t++) text.append(t).append(":aa;");
        due.holds("80 bytes", text.length() == 80);
        typeAll(most, text.toString());
        due("thirty", most.back(), FULL);
        due("no notes", most.count(0), 0);
    }

    @Says(promise = 28, words = "(THE TEXT stays.)")
    private static void textStays() {
        LuteTabs x = withCourses(2);
        typeAll(x, "0:a-;");
        due("back", x.back(), 1);
        due("bytes", x.count(7), 5);
        due("right", x.flaw(), NONE);
        typeAll(x, "0:a-;5");
        due("refused", x.back(), NOT);
        due("bytes", x.count(7), 6);
        due("flaw", x.flaw(), 6);
    }

    public static void main(String[] args) throws Exception {
        Sentences.run(TextEdgeTest.class, due, 24, 28);
    }
}
