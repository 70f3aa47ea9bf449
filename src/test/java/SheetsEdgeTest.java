/** Promises 29 to 36: each sentence that names an edge, with a test of its own. */
public final class SheetsEdgeTest extends Lutes {
    private static final long LEAST = Long.MIN_VALUE;

    private static String items(LuteTabs x, int s, int n) {
        StringBuilder all = new StringBuilder();
        for (int i = 0; i < n; i++) all.append(i == 0 ? "" : " ").append(x.get(s, i));
        return all.toString();
    }

    // ---- 29, 30: sheet, lose

    @Says(promise = 29, words = "A SHEET is a new row of a FORM with n items: n.")
    private static void sheetEdges() {
        LuteTabs x = new LuteTabs();
        for (int s = 0; s < 4; s++) {
            for (int form = 0; form < 3; form++) {
                for (int n : new int[] {0, 1, 47, 48}) {
                    due("sheet of " + n, x.sheet(s, form, n), n);
                    due("no item " + n, x.get(s, n), LEAST + 12);
                    if (n > 0) {
                        due("the last is new", x.get(s, n - 1), 0);
                        due("put", x.put(s, form, n - 1, 7), 1);
                        due("and the first of the next is new", x.sheet(s, form, n), n);
                        due("new", x.get(s, n - 1), 0);
                        x.put(s, form, 0, 7);
                    }
                }
            }
        }
    }

    @Says(promise = 29, words = "with n items: n.")
    private static void sheetGrown() {
        LuteTabs x = new LuteTabs();
        fill(x, 0, 1, 1, 2, 3, 4, 5);
        x.sheet(0, 1, 2);
        x.sheet(0, 1, 5);
        dueText("nothing of what was", items(x, 0, 5), "0 0 0 0 0");
        fill(x, 0, 1, 1, 2, 3);
        x.lose(0);
        x.sheet(0, 1, 3);
        dueText("nothing of what was lost", items(x, 0, 3), "0 0 0");
        x.sheet(0, 0, 3);
        due("another form", x.put(0, 1, 0, 1), CAST);
        due("another form", x.put(0, 0, 0, 1), 1);
    }

    @Says(promise = 29, words = "BAD: SHEET, FORM, above 48; SIZE.")
    private static void sheetRefused() {
        LuteTabs x = new LuteTabs();
        for (int s : new int[] {-1, 4, MIN, MAX}) {
            for (int n : new int[] {1, -1, 49}) due("sheet " + s, x.sheet(s, 0, n), BAD);
        }
        for (int form : new int[] {-1, 3, MIN, MAX}) {
            for (int n : new int[] {1, -1, 49}) due("form " + form, x.sheet(0, form, n), BAD);
        }
        for (int n : new int[] {49, 50, MAX}) due("above 48", x.sheet(0, 0, n), BAD);
        due("no finding", x.count(8), 0);
        for (int n : new int[] {-1, -2, MIN}) {
            due("below 0", x.sheet(0, 0, n), SIZE);
            due("finding", x.count(8), 5);
        }
        due("still lost", x.get(0, 0), LEAST + 11);
    }

    @Says(promise = 30, words = "It is LOST: how many items it had.")
    private static void loseEdges() {
        LuteTabs x = new LuteTabs();
        for (int s = 0; s < 4; s++) x.sheet(s, s % 3, 16 * s);
        for (int s = 0; s < 4; s++) {
            due("lose " + s, x.lose(s), 16 * s);
            due("lost", x.lose(s), NULL);
            for (int other = s + 1; other < 4; other++) due("the others stay", x.get(other, 0), 0);
        }
        due("a row anew", x.sheet(3, 0, 2), 2);
        due("lose", x.lose(3), 2);
    }

    @Says(promise = 30, words = "BAD; NULL.")
    private static void loseRefused() {
        LuteTabs x = new LuteTabs();
        for (int s : new int[] {-1, 4, MIN, MAX}) due("sheet " + s, x.lose(s), BAD);
        due("no finding", x.count(8), 0);
        for (int s = 0; s < 4; s++) due("lost", x.lose(s), NULL);
        due("finding", x.count(8), 1);
    }

    // ---- 31, 32: put, get

    @Says(promise = 31, words = "of bytes its lowest bits")
    private static void putBytes() {
        LuteTabs x = new LuteTabs();
        x.sheet(0, 0, 1);
        int[] values = {0, 1, 127, 128, 129, 255, 256, 257, 383, 384, -1, -128, -129, -256, MIN, MAX, MAX - 128};
        for (int v : values) {
            due("put " + v, x.put(0, 0, 0, v), 1);
            due("a byte of " + v, x.get(0, 0), (byte) v);
        }
        x.put(0, 0, 0, 128);
        due("the first that wraps", x.get(0, 0), -128);
        x.put(0, 0, 0, -129);
        due("the first that wraps below", x.get(0, 0), 127);
    }

    @Says(promise = 31, words = "Item i, treated as of a FORM, becomes v")
    private static void putInts() {
        LuteTabs x = new LuteTabs();
        x.sheet(1, 1, 48);
        for (int v : new int[] {0, 1, -1, 127, 128, 256, MIN, MAX}) {
            due("put " + v, x.put(1, 1, 47, v), 1);
            due("an int", x.get(1, 47), v);
        }
        due("the first", x.put(1, 1, 0, 5), 1);
        due("it", x.get(1, 0), 5);
        for (int i = 1; i < 47; i++) due("the others stay", x.get(1, i), 0);
    }

    @Says(promise = 31, words = "of longs v times 100000007): 1.")
    private static void putLongs() {
        LuteTabs x = new LuteTabs();
        x.sheet(2, 2, 2);
        int[] values = {0, 1, -1, 21, 22, -21, -22, 43, MIN, MAX};
        for (int v : values) {
            due("put " + v, x.put(2, 2, 1, v), 1);
            due("a long of " + v, x.get(2, 1), v * 100000007L);
        }
        x.put(2, 2, 1, MAX);
        due("the greatest", x.get(2, 1), 214748379732385529L);
        x.put(2, 2, 1, MIN);
        due("the least", x.get(2, 1), -214748379832385536L);
        due("the other stays", x.get(2, 0), 0);
    }

    @Says(promise = 31, words = "BAD; NULL; CAST; INDEX.")
    private static void putRefused() {
        LuteTabs x = new LuteTabs();
        x.sheet(0, 0, 3);
        x.sheet(1, 1, 3);
        x.sheet(2, 2, 0);
        for (int s : new int[] {-1, 4, MIN, MAX}) due("sheet " + s, x.put(s, 0, 0, 1), BAD);
        for (int form : new int[] {-1, 3, MIN, MAX}) {
            due("form " + form, x.put(0, form, 0, 1), BAD);
            due("BAD comes ahead of NULL", x.put(3, form, 0, 1), BAD);
            due("BAD comes ahead of INDEX", x.put(0, form, 3, 1), BAD);
        }
        due("no finding", x.count(8), 0);
        for (int form = 0; form < 3; form++) due("lost", x.put(3, form, -1, 1), NULL);
        due("finding", x.count(8), 1);
        for (int s = 0; s < 3; s++) {
            for (int form = 0; form < 3; form++) {
                if (form != s) due("CAST comes ahead of INDEX", x.put(s, form, 99, 1), CAST);
            }
        }
        due("finding", x.count(8), 3);
        for (int i : new int[] {-1, 3, 48, MIN, MAX}) {
            due("item " + i, x.put(0, 0, i, 1), INDEX);
            due("item " + i, x.put(1, 1, i, 1), INDEX);
        }
        due("finding", x.count(8), 2);
        due("of no items", x.put(2, 2, 0, 1), INDEX);
        dueText("they stay", items(x, 0, 3), "0 0 0");
    }

    @Says(promise = 32, words = "Item i of it. BAD; NULL; INDEX.")
    private static void getEdges() {
        LuteTabs x = new LuteTabs();
        x.sheet(0, 2, 48);
        due("the first", x.get(0, 0), 0);
        due("the last", x.get(0, 47), 0);
        for (int s : new int[] {-1, 4, MIN, MAX}) due("sheet " + s, x.get(s, 0), LEAST + 2);
        due("BAD comes first", x.get(4, -1), LEAST + 2);
        due("no finding", x.count(8), 0);
        for (int i : new int[] {-1, 48, 49, MIN, MAX}) due("item " + i, x.get(0, i), LEAST + 12);
        due("finding", x.count(8), 2);
        for (int i : new int[] {-1, 0, 48}) due("lost: NULL comes ahead of INDEX", x.get(3, i), LEAST + 11);
        due("finding", x.count(8), 1);
    }

    // ---- 33: copy

    @Says(promise = 33, words = "n items of SHEET s, from i on, come to SHEET t (perhaps s, as they were), from j on: 1.")
    private static void copyWithin() {
        for (int i = 0; i <= 5; i++) {
            for (int j = 0; j <= 5; j++) {
                for (int n = 0; n <= 5 - Math.max(i, j); n++) {
                    LuteTabs x = new LuteTabs();
                    fill(x, 2, 1, 10, 11, 12, 13, 14);
                    int[] want = {10, 11, 12, 13, 14};
                    int[] was = want.clone();
                    for (int m = 0; m < n; m++) want[j + m] = was[i + m];
                    due("copy", x.copy(2, i, 2, j, n), 1);
                    for (int m = 0; m < 5; m++) due(i + " to " + j + ", " + n + ": item " + m, x.get(2, m), want[m]);
                }
            }
        }
    }

    @Says(promise = 33, words = "n items of SHEET s, from i on, come to SHEET t")
    private static void copyEachForm() {
        for (int form = 0; form < 3; form++) {
            LuteTabs x = new LuteTabs();
            x.sheet(0, form, 48);
            x.sheet(3, form, 48);
            for (int i = 0; i < 48; i++) x.put(0, form, i, i - 20);
            due("all 48", x.copy(0, 0, 3, 0, 48), 1);
            for (int i = 0; i < 48; i++) due("item " + i, x.get(3, i), x.get(0, i));
            x.put(0, form, 0, 1);
            x.put(0, form, 47, 2);
            due("the last to the first", x.copy(0, 47, 3, 0, 1), 1);
            due("the first to the last", x.copy(0, 0, 3, 47, 1), 1);
            due("it", x.get(3, 0), x.get(0, 47));
            due("it", x.get(3, 47), x.get(0, 0));
            x.put(0, form, 5, 99);
            due("the copy is apart", x.get(3, 5) == x.get(0, 5) ? 1 : 0, 0);
        }
    }

    @Says(promise = 33, words = "BAD: the SHEETS; NULL: s, t; STORE; INDEX")
    private static void copyRefused() {
        LuteTabs x = new LuteTabs();
        fill(x, 0, 0, 1, 2, 3);
        fill(x, 1, 1, 4, 5, 6);
        for (int bad : new int[] {-1, 4, MIN, MAX}) {
            due("from " + bad, x.copy(bad, 0, 0, 0, 1), BAD);
            due("to " + bad, x.copy(0, 0, bad, 0, 1), BAD);
            due("BAD comes ahead of NULL", x.copy(3, 0, bad, 0, 1), BAD);
            due("BAD comes ahead of NULL", x.copy(bad, 0, 3, 0, 1), BAD);
            due("both", x.copy(bad, -1, bad, -1, -1), BAD);
        }
        due("no finding", x.count(8), 0);
        due("s", x.copy(3, 0, 0, 0, 1), NULL);
        due("t", x.copy(0, 0, 3, 0, 1), NULL);
        due("both", x.copy(2, 0, 3, 0, 0), NULL);
        due("a lost one has no form that is unlike", x.copy(1, 0, 3, 0, 1), NULL);
        due("a lost one has no form that is unlike", x.copy(3, 0, 1, 0, 1), NULL);
        x.sheet(3, 2, 1);
        x.lose(3);
        due("whatever form it had", x.copy(0, 0, 3, 0, 1), NULL);
        due("whatever form it had", x.copy(3, 0, 1, 0, 1), NULL);
        due("NULL comes ahead of INDEX", x.copy(0, -1, 3, 99, -1), NULL);
        due("finding", x.count(8), 1);
        due("unlike forms", x.copy(0, 0, 1, 0, 1), STORE);
        due("of no items, too", x.copy(1, 0, 0, 0, 0), STORE);
        due("STORE comes ahead of INDEX", x.copy(0, -1, 1, -1, -1), STORE);
        due("finding", x.count(8), 4);
        dueText("they stay", items(x, 0, 3) + " " + items(x, 1, 3), "1 2 3 4 5 6");
    }

    @Says(promise = 33, words = "INDEX: i, j or n below 0, not so many there (of n 0, too: i or j above the size).")
    private static void copyIndex() {
        LuteTabs x = new LuteTabs();
        fill(x, 0, 0, 1, 2, 3, 4);
        fill(x, 1, 0, 5, 6, 7);
        int[][] outside = {{-1, 0, 1}, {0, -1, 1}, {0, 0, -1}, {-1, 0, 0}, {0, -1, 0}, {1, 0, 4}, {0, 0, 4}, {0, 1, 3},
            {4, 0, 1}, {0, 3, 1}, {5, 0, 0}, {0, 4, 0}, {MIN, 0, 1}, {0, MIN, 1}, {0, 0, MIN}, {MAX, 0, 1}, {0, MAX, 1},
            {0, 0, MAX}, {MAX, 0, MAX}, {0, MAX, MAX}, {1, 1, MAX}, {MAX, MAX, 0}, {2, 0, MAX - 1}, {MIN, MIN, MIN}};
        for (int[] o : outside) {
            x.lose(3);
            due("before", x.count(8), 1);
            due("copy " + o[0] + " " + o[1] + " " + o[2], x.copy(0, o[0], 1, o[1], o[2]), INDEX);
            due("finding", x.count(8), 2);
        }
        dueText("they stay", items(x, 0, 4) + " " + items(x, 1, 3), "1 2 3 4 5 6 7");
        due("none, at both ends", x.copy(0, 4, 1, 3, 0), 1);
        due("none, at both beginnings", x.copy(0, 0, 1, 0, 0), 1);
        dueText("they stay", items(x, 0, 4) + " " + items(x, 1, 3), "1 2 3 4 5 6 7");
        due("as many as there are", x.copy(0, 1, 1, 0, 3), 1);
        dueText("they came", items(x, 1, 3), "2 3 4");
        x.sheet(2, 0, 0);
        due("none of none", x.copy(2, 0, 2, 0, 0), 1);
        due("one of none", x.copy(2, 0, 2, 0, 1), INDEX);
        due("none of none, from 1", x.copy(2, 1, 2, 0, 0), INDEX);
    }

    // ---- 34: write

    @Says(promise = 34, words = "FRETS of what is LAID come to a SHEET, that of NOTE n to item n (as they are, of bytes their lowest bits)")
    private static void writeEachForm() {
        for (int form = 0; form < 3; form++) {
            LuteTabs x = withNotes(0, 0, 1, 1, 70, 1, 2, 20, 1);
            x.tune(1, 60);
            layAll(x, 1, 4, 0);
            x.sheet(2, form, 4);
            x.put(2, form, 3, 1);
            long last = x.get(2, 3);
            due("write", x.write(2), 3);
            due("the least fret", x.get(2, 0), -60);
            due("the greatest fret", x.get(2, 1), 70);
            due("fret 0", x.get(2, 2), 0);
            due("the rest stays", x.get(2, 3), last);
        }
    }

    @Says(promise = 34, words = "as many as there are items, and NOTES: how many.")
    private static void writeAsMany() {
        for (int notes = 0; notes <= 14; notes++) {
            LuteTabs x = new LuteTabs();
            for (int n = 0; n < notes; n++) x.note(n, n, 1);
            x.courses(5);
            if (notes == 0) x.mend();
            for (int n = 0; n < notes; n++) x.lay(n, 4);
            for (int size : new int[] {0, 1, 13, 14, 15, 48}) {
                x.sheet(0, 1, size);
                for (int i = 0; i < size && i < 16; i++) x.put(0, 1, i, 99);
                int many = Math.min(notes, size);
                due(notes + " to " + size, x.write(0), many);
                if (many > 0) due("the last", x.get(0, many - 1), many - 1);
                if (many < size && many < 16) due("the next", x.get(0, many), 99);
            }
        }
    }

    @Says(promise = 34, words = "BAD; NULL; NOT: nothing is LAID.")
    private static void writeRefused() {
        LuteTabs x = withNotes(0, 20, 1);
        for (int s : new int[] {-1, 4, MIN, MAX}) due("sheet " + s, x.write(s), BAD);
        due("no finding", x.count(8), 0);
        due("NULL comes ahead of NOT", x.write(0), NULL);
        due("finding", x.count(8), 1);
        fill(x, 0, 0, 9, 9);
        due("nothing laid", x.write(0), NOT);
        dueText("items stay", items(x, 0, 2), "9 9");
        x.lay(0, 0);
        due("laid", x.write(0), 1);
        due("lost", x.write(1), NULL);
    }

    // ---- 35: count

    @Says(promise = 35, words = "0 NOTES, 1 CHORDS, 2 C")
    private static void countNotes() {
        LuteTabs x = new LuteTabs();
        for (int n = 0; n < 14; n++) {
            due("notes", x.count(0), n);
            due("chords", x.count(1), (n + 1) / 2);
            x.note(n / 2, 20, 1);
        }
        due("notes", x.count(0), 14);
        due("chords", x.count(1), 7);
        for (int c = 2; c <= 5; c++) {
            x.courses(c);
            due("C", x.count(2), c);
        }
    }

    @Says(promise = 35, words = "3 whether there is a GOOD LAYING (1, 0)")
    private static void countGood() {
        LuteTabs x = new LuteTabs();
        due("of no notes", x.count(3), 1);
        x.note(0, 70, 1);
        due("none", x.count(3), 0);
        x.lay(0, 0);
        due("none, though something is laid", x.count(3), 0);
        x.gone(0);
        x.note(0, 20, 1);
        due("one", x.count(3), 1);
        x.lay(0, 4);
        due("one, though what is laid is wrong", x.count(3), 1);
    }

    @Says(promise = 35, words = "4 whether anything is LAID (1, 0), 5 WRONG of it (NONE)")
    private static void countLaid() {
        LuteTabs x = withNotes(0, 20, 1, 1, 20, 1);
        due("nothing laid", x.count(4), 0);
        due("nothing laid", x.count(5), NONE);
        x.lay(0, 4);
        due("laid", x.count(4), 1);
        due("wrong", x.count(5), 1);
        x.lay(1, 4);
        due("wrong", x.count(5), 2);
        x.mend();
        due("good", x.count(5), 0);
        x.gone(0);
        due("nothing laid", x.count(4), 0);
        due("nothing laid", x.count(5), NONE);
    }

    @Says(promise = 35, words = "6 SLOTS that are not EMPTY, 7 bytes of THE TEXT")
    private static void countSlotsAndBytes() {
        LuteTabs x = new LuteTabs();
        x.mend();
        for (int s = 0; s < 4; s++) {
            due("slots", x.count(6), s);
            x.keep(3 - s);
        }
        due("all slots", x.count(6), 4);
        for (int i = 0; i < 80; i++) {
            due("bytes", x.count(7), i);
            x.type(0);
        }
        due("all bytes", x.count(7), 80);
        x.type(0);
        due("no more", x.count(7), 80);
        x.wipe();
        due("none", x.count(7), 0);
    }

    @Says(promise = 35, words = "8 the number of the latest FINDING (0 before any)")
    private static void countFinding() {
        LuteTabs x = new LuteTabs();
        due("before any", x.count(8), 0);
        x.courses(6);
        x.mend();
        x.text(0);
        x.back();
        for (int i = 0; i < 81; i++) x.type(0);
        due("BAD, NOT and FULL are none", x.count(8), 0);
        x.sheet(0, 0, -1);
        due("the latest", x.count(8), 5);
        x.go(0);
        due("the latest", x.count(8), 1);
        x.sheet(0, 0, 49);
        due("BAD is none", x.count(8), 1);
        x.clear();
        x.wipe();
        due("it stays", x.count(8), 1);
    }

    @Says(promise = 35, words = "BAD.")
    private static void countBeyond() {
        LuteTabs x = new LuteTabs();
        for (int what : new int[] {-1, 9, MIN, MAX}) due("count " + what, x.count(what), BAD);
        for (int what = 0; what <= 8; what++) due("count " + what, x.count(what) == BAD ? 1 : 0, 0);
    }

    // ---- 36: digest

    private static long more(long h, long... told) {
        long all = h;
        for (long t : told) all = all * 31 + t;
        return all;
    }

    @Says(promise = 36, words = "h is 17; h becomes 31 h and each of")
    private static void digestOfNew() {
        LuteTabs x = new LuteTabs();
        long h = more(17, 0, 0, 5, 1, 0, NONE, 0, 0, 0, NONE, NOT);
        for (int open : new int[] {20, 15, 11, 6, 0}) h = more(h, open, 0, 0, 0);
        h = more(h, 0, 0, 0, 0, 0, 0, 0, 0, NOT);
        due("of a new object", x.digest(), h);
    }

    @Says(promise = 36, words = "(of each thing all that is told of it, then of the next one)")
    private static void digestOfOneNote() {
        LuteTabs x = withNotes(12, 21, 3);
        x.courses(2);
        x.mend();
        x.keep(1);
        x.lay(0, 1);
        x.keep(3);
        x.type('1');
        long h = more(17, 1, 1, 2, 1, 1, 0, 2, 1, 1, NONE, 1);
        h = more(h, 20, 1, 0, 1, 15, 1, 1, 1);
        h = more(h, 12, 21, 3, 0, 2, 1);
        h = more(h, 12, 1, 1, 6, 1, 0, 1);
        // 19 to 23 by keys -2 to 2: 20 alone is open.
        h = more(h, 1, 0, 1, 1, 1, -1, 0, 1);
        h = more(h, 6, '1', '2', ':', '-', 'g', ';');
        h = more(h, 1, 0);
        due("of one note", x.digest(), h);
    }

    @Says(promise = 36, words = "(NONE alone: NOT)")
    private static void digestOfWrong() {
        LuteTabs x = withNotes(0, 70, 1);
        x.courses(2);
        x.lay(0, 1);
        x.keep(0);
        x.sheet(0, 0, -1);
        long h = more(17, 1, 1, 2, 0, 1, 1, 1, 0, NOT, 0, 1);
        h = more(h, 20, 0, 0, NONE, 15, 0, 1, NONE);
        h = more(h, 0, 70, 1, 0, 0, 1);
        h = more(h, 0, 1, 1, 55, 1, 0, 1);
        h = more(h, NONE, NONE, NONE, NONE, NONE, MIN, MIN, 0, NOT, 0);
        due("of what is wrong", x.digest(), h);
        due("findings stay", x.count(8), 5);
    }

    @Says(promise = 36, words = "of SLOTS that are not EMPTY differ()")
    private static void digestOfSlots() {
        LuteTabs x = withNotes(0, 20, 1);
        x.mend();
        x.keep(0);
        long before = x.digest();
        x.lay(0, 1);
        x.keep(2);
        x.go(0);
        due("no finding of empty ones", x.count(8), 0);
        long after = x.digest();
        due("no finding of empty ones", x.count(8), 0);
        // Slot 2 is told behind slot 0, and count() 6 is one more.
        LuteTabs y = withNotes(0, 20, 1);
        y.mend();
        y.keep(0);
        due("the same calls, the same digest", y.digest(), before);
        due("one more slot", after == before ? 1 : 0, 0);
    }

    @Says(promise = 36, words = "as longs that wrap")
    private static void digestWraps() {
        LuteTabs x = new LuteTabs();
        for (int n = 0; n < 14; n++) x.note(n, 20, 1);
        x.mend();
        long h = 17;
        boolean wrapped = false;
        for (int what = 0; what < 8; what++) h = more(h, x.count(what));
        h = more(h, x.least(), x.fault(), x.cost());
        for (int c = 0; c < 5; c++) {
            for (int what = 0; what < 3; what++) h = more(h, x.course(c, what));
            long told = x.without(c);
            wrapped = wrapped || Math.multiplyHigh(h, 31) != (h * 31 >> 63);
            h = more(h, told);
        }
        for (int n = 0; n < 14; n++) {
            for (int what = 0; what < 6; what++) h = more(h, x.info(n, what));
        }
        for (int k = 0; k < 14; k++) {
            for (int what = 0; what < 7; what++) h = more(h, x.chord(k, what));
        }
        for (int k = -2; k <= 2; k++) h = more(h, x.key(k));
        h = more(h, x.easiest(0), x.easiest(1), x.flaw(), x.text(NONE));
        for (int i = 0; i < x.text(NONE); i++) h = more(h, x.text(i));
        due.holds("it wraps", wrapped);
        due("of fourteen notes", x.digest(), h);
    }

    public static void main(String[] args) throws Exception {
        Sentences.run(SheetsEdgeTest.class, due, 29, 36);
    }
}
