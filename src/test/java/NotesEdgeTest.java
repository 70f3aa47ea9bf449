/** Promises 1 to 10: each sentence that names an edge, with a test of its own. */
public final class NotesEdgeTest extends Lutes {
    // ---- 1: a new object

    @Says(promise = 1, words = "Five COURSES, F 7, SPAN 3, SHIFT 2, PRESS 1, BARRE 1")
    private static void newSettings() {
        LuteTabs x = new LuteTabs();
        int[] first = {7, 3, 2, 1, 1};
        for (int what = 0; what < 5; what++) due("setting " + what, x.set(what, 4), first[what]);
        due("courses", x.courses(2), 5);
    }

    @Says(promise = 1, words = "no NOTES, nothing LAID; THE TEXT is empty")
    private static void newAndEmpty() {
        LuteTabs x = new LuteTabs();
        int[] counts = {0, 0, 5, 1, 0, NONE, 0, 0, 0};
        for (int what = 0; what < 9; what++) due("count " + what, x.count(what), counts[what]);
        due("no note 0", x.info(0, 0), BAD);
        due("no chord 0", x.chord(0, 0), BAD);
        due("flaw of the empty text", x.flaw(), 0);
        due("nothing to wipe", x.wipe(), 0);
        due("nothing to clear", x.clear(), 0);
    }

    @Says(promise = 1, words = "all SHEETS are LOST, SLOTS EMPTY")
    private static void newSheetsAndSlots() {
        LuteTabs x = new LuteTabs();
        for (int i = 0; i < 4; i++) {
            due("sheet " + i, x.get(i, 0), Long.MIN_VALUE + 11);
            due("slot " + i, x.differ(i), NULL);
        }
    }

    @Says(promise = 1, words = "`LuteTabs()`")
    private static void objectsApart() {
        LuteTabs x = new LuteTabs();
        x.courses(2);
        x.tune(0, 33);
        x.set(0, 9);
        x.note(0, 40, 1);
        x.mend();
        x.keep(0);
        x.type(48);
        x.sheet(0, 0, 3);
        LuteTabs y = new LuteTabs();
        due("courses", y.count(2), 5);
        due("open", y.course(0, 0), 20);
        due("F", y.set(0, 7), 7);
        due("notes", y.count(0), 0);
        due("text", y.count(7), 0);
        due("slot", y.go(0), NULL);
        due("sheet", y.lose(0), NULL);
        due("the other stays", x.count(0), 1);
    }

    // ---- 2 to 4: courses, tune, set

    @Says(promise = 2, words = "C (OPEN pitches stay): what it was.")
    private static void coursesAndBack() {
        LuteTabs x = new LuteTabs();
        for (int c = 0; c < 5; c++) x.tune(c, 30 + c);
        int was = 5;
        for (int c : new int[] {2, 5, 3, 4, 4, 2, 5}) {
            due("courses " + c, x.courses(c), was);
            was = c;
            for (int i = 0; i < c; i++) due("open " + i + " of " + c, x.course(i, 0), 30 + i);
        }
    }

    @Says(promise = 2, words = "BAD.")
    private static void coursesBeyond() {
        LuteTabs x = new LuteTabs();
        for (int c : new int[] {1, 6, 0, -1, MIN, MAX}) {
            due("courses " + c, x.courses(c), BAD);
            due("stays", x.count(2), 5);
        }
    }

    @Says(promise = 3, words = "OPEN of a COURSE: what it was.")
    private static void tuneEach() {
        LuteTabs x = new LuteTabs();
        int[] was = {20, 15, 11, 6, 0};
        for (int c = 0; c < 5; c++) {
            due("tune", x.tune(c, 60 - c), was[c]);
            due("tune to what it is", x.tune(c, 60 - c), 60 - c);
        }
        for (int c = 0; c < 5; c++) due("open", x.course(c, 0), 60 - c);
    }

    @Says(promise = 3, words = "BAD.")
    private static void tuneBeyond() {
        LuteTabs x = new LuteTabs();
        for (int p : new int[] {-1, 61, MIN, MAX}) due("to " + p, x.tune(0, p), BAD);
        for (int c : new int[] {-1, 5, MIN, MAX}) due("of " + c, x.tune(c, 1), BAD);
        for (int size = 2; size < 5; size++) {
            x.courses(size);
            due("of a course that is not there", x.tune(size, 1), BAD);
        }
        x.courses(5);
        int[] open = {20, 15, 11, 6, 0};
        for (int c = 0; c < 5; c++) due("stays", x.course(c, 0), open[c]);
    }

    @Says(promise = 4, words = "F (what = 0), SPAN (1), SHIFT (2), PRESS (3), BARRE (4): what it was.")
    private static void setEach() {
        int[] from = {1, 0, 0, 0, 0};
        int[] to = {9, 6, 9, 9, 9};
        int[] was = {7, 3, 2, 1, 1};
        LuteTabs x = new LuteTabs();
        for (int what = 0; what < 5; what++) {
            due("the least of " + what, x.set(what, from[what]), was[what]);
            due("below it", x.set(what, from[what] - 1), BAD);
            due("the greatest of " + what, x.set(what, to[what]), from[what]);
            due("above it", x.set(what, to[what] + 1), BAD);
            was[what] = to[what];
            for (int other = 0; other < 5; other++) due("the others stay", x.set(other, was[other]), was[other]);
        }
    }

    @Says(promise = 4, words = "BAD.")
    private static void setBeyond() {
        LuteTabs x = new LuteTabs();
        for (int what : new int[] {-1, 5, MIN, MAX}) due("what " + what, x.set(what, 3), BAD);
        for (int what = 0; what < 5; what++) {
            for (int v : new int[] {-1, 10, MIN, MAX}) due("to " + v, x.set(what, v), BAD);
        }
        due("7 of SPAN", x.set(1, 7), BAD);
        due("0 of F", x.set(0, 0), BAD);
    }

    // ---- 5 to 8: note, gone, clear, read

    @Says(promise = 5, words = "A NOTE more: its number.")
    private static void noteNumbers() {
        LuteTabs x = new LuteTabs();
        due("the first", x.note(100, 35, 1), 0);
        due("the least of all ahead of it", x.note(0, 0, 1), 0);
        due("the greatest of all behind it", x.note(199, 70, 40), 2);
        due("like that", x.note(199, 70, 40), 3);
        due("like the least", x.note(0, 0, 40), 1);
        due("between", x.note(100, 34, 40), 2);
    }

    @Says(promise = 5, words = "BAD; FULL: there are 14, or three that begin then.")
    private static void noteFull() {
        LuteTabs three = withNotes(7, 20, 1, 7, 20, 1, 7, 20, 1);
        due("a fourth then", three.note(7, 20, 1), FULL);
        due("BAD comes first", three.note(7, 20, 0), BAD);
        due("at another time", three.note(6, 20, 1), 0);
        LuteTabs x = new LuteTabs();
        for (int n = 0; n < 14; n++) x.note(n / 3, 20, 1);
        due("a fifteenth", x.note(4, 20, 1), FULL);
        due("BAD comes first", x.note(4, 71, 1), BAD);
        due("BAD comes first", x.note(-1, 20, 1), BAD);
        due("fourteen", x.count(0), 14);
        x.gone(13);
        due("room again", x.note(4, 20, 1), 13);
        due("none", x.note(4, 20, 1), FULL);
    }

    @Says(promise = 6, words = "A NOTE is gone: how many are left.")
    private static void goneEach() {
        for (int n = 0; n < 14; n++) {
            LuteTabs x = new LuteTabs();
            for (int m = 0; m < 14; m++) x.note(m, 20 + m, 1 + m);
            due("gone " + n, x.gone(n), 13);
            for (int m = 0; m < 13; m++) {
                int was = m < n ? m : m + 1;
                due("time", x.info(m, 0), was);
                due("pitch", x.info(m, 1), 20 + was);
                due("last", x.info(m, 2), 1 + was);
                due("chord", x.info(m, 3), m);
            }
            due("no note 13", x.info(13, 0), BAD);
        }
        LuteTabs down = new LuteTabs();
        for (int m = 0; m < 14; m++) down.note(m / 3, 20, 1);
        for (int left = 13; left >= 0; left--) {
            due("left", down.gone(0), left);
            due("chords", down.count(1), left == 0 ? 0 : 5 - (14 - left) / 3);
        }
    }

    @Says(promise = 6, words = "BAD.")
    private static void goneBeyond() {
        due("of none", new LuteTabs().gone(0), BAD);
        LuteTabs x = withNotes(0, 20, 1, 1, 21, 1);
        for (int n : new int[] {-1, 2, 13, 14, MIN, MAX}) due("gone " + n, x.gone(n), BAD);
        due("stay", x.count(0), 2);
        due("the last", x.gone(1), 1);
        due("no longer", x.gone(1), BAD);
    }

    @Says(promise = 7, words = "There are no NOTES: how many there were.")
    private static void clearEach() {
        for (int n = 0; n <= 14; n++) {
            LuteTabs x = new LuteTabs();
            for (int m = 0; m < n; m++) x.note(m / 2, 20, 1);
            due("clear", x.clear(), n);
            due("notes", x.count(0), 0);
            due("chords", x.count(1), 0);
            due("none to clear", x.clear(), 0);
            due("room from 0 on", x.note(0, 20, 1), 0);
        }
    }

    @Says(promise = 8, words = "TIME, PITCH, LAST of each, its items, as many as are whole")
    private static void readWhole() {
        for (int size = 0; size <= 48; size++) {
            LuteTabs x = new LuteTabs();
            x.sheet(3, 0, size);
            for (int i = 0; i < size; i++) x.put(3, 0, i, i % 3 == 0 ? 90 - i : i % 3 == 1 ? i : 1 + i / 3);
            due("read of " + size, x.read(3), Math.min(size / 3, 14));
            due("notes", x.count(0), Math.min(size / 3, 14));
        }
    }

    @Says(promise = 8, words = "as long as each may be")
    private static void readMayBe() {
        int[][] edges = {{0, 0, 1, 1}, {199, 70, 40, 1}, {-1, 0, 1, 0}, {200, 0, 1, 0}, {0, -1, 1, 0}, {0, 71, 1, 0},
            {0, 0, 0, 0}, {0, 0, 41, 0}, {MIN, 0, 1, 0}, {0, MAX, 1, 0}, {0, 0, MIN, 0}};
        for (int[] e : edges) {
            LuteTabs x = new LuteTabs();
            fill(x, 0, 1, 50, 20, 5, e[0], e[1], e[2], 60, 20, 5);
            due("read " + e[0] + " " + e[1] + " " + e[2], x.read(0), e[3] == 1 ? 3 : 1);
            due("those behind it are not told", x.count(0), e[3] == 1 ? 3 : 1);
        }
    }

    @Says(promise = 8, words = "NOTES more, from a SHEET")
    private static void readEachForm() {
        LuteTabs bytes = new LuteTabs();
        fill(bytes, 0, 0, 127, 70, 40, 128, 70, 40);
        due("byte 127, and one whose lowest bits are below 0", bytes.read(0), 1);
        due("time", bytes.info(0, 0), 127);
        LuteTabs longs = new LuteTabs();
        // A long is 0 or beyond all that a note may have, so LAST is never as it may be.
        fill(longs, 0, 2, 0, 0, 1);
        due("100000007 is no LAST", longs.read(0), 0);
        fill(longs, 0, 2, 0, 0, 0);
        due("0 is no LAST", longs.read(0), 0);
        addNotes(longs, 0, 20, 9, 1, 21, 1);
        longs.set(0, 9);
        longs.lay(0, 4);
        longs.lay(1, 4);
        fill(longs, 1, 2, 0, 0, 0);
        due("frets come as they are", longs.write(1), 2);
        due("fret 20", longs.get(1, 0), 20);
        longs.copy(1, 0, 1, 2, 1);
        due("of longs that are small", longs.read(1), 1);
        due("told", longs.info(2, 0), 20);
        due("told", longs.info(2, 1), 21);
        due("told", longs.info(2, 2), 20);
    }

    @Says(promise = 8, words = "and there is room: how many.")
    private static void readRoom() {
        LuteTabs x = new LuteTabs();
        fill(x, 0, 1, 9, 20, 1, 9, 21, 1, 9, 22, 1, 9, 23, 1, 8, 20, 1);
        due("three that begin then", x.read(0), 3);
        due("none more", x.read(0), 0);
        LuteTabs y = new LuteTabs();
        for (int n = 0; n < 12; n++) y.note(n, 20, 1);
        fill(y, 0, 1, 20, 20, 1, 21, 20, 1, 22, 20, 1);
        due("room for two", y.read(0), 2);
        due("fourteen", y.count(0), 14);
        due("no room", y.read(0), 0);
        due("the last one", y.info(13, 0), 21);
    }

    @Says(promise = 8, words = "BAD; NULL.")
    private static void readRefused() {
        LuteTabs x = new LuteTabs();
        for (int s : new int[] {-1, 4, MIN, MAX}) due("read " + s, x.read(s), BAD);
        due("no finding", x.count(8), 0);
        for (int s = 0; s < 4; s++) due("lost", x.read(s), NULL);
        due("finding", x.count(8), 1);
        x.sheet(3, 1, 0);
        due("no items", x.read(3), 0);
    }

    // ---- 9, 10: info, course

    @Says(promise = 9, words = "at which CHORD it begins (3)")
    private static void infoChord() {
        LuteTabs x = new LuteTabs();
        for (int n = 0; n < 14; n++) x.note(10 * (n / 3), 20, 40);
        for (int n = 0; n < 14; n++) due("chord of " + n, x.info(n, 3), n / 3);
    }

    @Says(promise = 9, words = "on how many COURSES it has a FRET 0 to F (4)")
    private static void infoPlaces() {
        LuteTabs x = alike(5);
        x.note(0, 17, 1);
        for (int size = 5; size >= 2; size--) {
            x.courses(size);
            due("as many as there are", x.info(0, 4), size);
        }
        x.tune(0, 9);
        due("fret 8 on one", x.info(0, 4), 1);
        x.tune(1, 18);
        due("fret -1 on the other", x.info(0, 4), 0);
        x.tune(1, 17);
        due("fret 0", x.info(0, 4), 1);
        x.tune(0, 10);
        due("fret 7", x.info(0, 4), 2);
    }

    @Says(promise = 9, words = "the COURSE on which it is LAID (5; NONE)")
    private static void infoLaid() {
        LuteTabs x = withNotes(0, 20, 1, 1, 20, 1);
        due("nothing laid", x.info(0, 5), NONE);
        x.lay(0, 4);
        due("the greatest", x.info(0, 5), 4);
        due("the other", x.info(1, 5), 0);
        x.note(2, 20, 1);
        due("nothing laid", x.info(2, 5), NONE);
    }

    @Says(promise = 9, words = "BAD.")
    private static void infoBeyond() {
        LuteTabs none = new LuteTabs();
        for (int what = 0; what < 6; what++) due("of no notes", none.info(0, what), BAD);
        LuteTabs x = withNotes(0, 20, 1, 1, 20, 1);
        for (int n : new int[] {-1, 2, 14, MIN, MAX}) {
            for (int what = 0; what < 6; what++) due("note " + n, x.info(n, what), BAD);
        }
        for (int what : new int[] {-1, 6, MIN, MAX}) due("what " + what, x.info(0, what), BAD);
    }

    @Says(promise = 10, words = "how many NOTES have a FRET 0 to F on it (1)")
    private static void courseNotes() {
        LuteTabs x = new LuteTabs();
        due("no notes", x.course(0, 1), 0);
        int[] pitches = {19, 20, 27, 28};
        for (int n = 0; n < 4; n++) x.note(n, pitches[n], 1);
        due("frets -1, 0, 7, 8", x.course(0, 1), 2);
        x.set(0, 8);
        due("of F 8", x.course(0, 1), 3);
        x.clear();
        for (int n = 0; n < 14; n++) x.note(n, 20, 1);
        due("all fourteen", x.course(0, 1), 14);
        due("none", x.course(4, 1), 0);
    }

    @Says(promise = 10, words = "how many are LAID on it (2; 0)")
    private static void courseLaid() {
        LuteTabs x = new LuteTabs();
        due("nothing laid", x.course(0, 2), 0);
        for (int n = 0; n < 14; n++) x.note(n, 20, 1);
        due("nothing laid", x.course(0, 2), 0);
        x.lay(13, 0);
        due("all", x.course(0, 2), 14);
        x.lay(13, 4);
        due("all but one", x.course(0, 2), 13);
        due("one", x.course(4, 2), 1);
        x.clear();
        due("nothing laid", x.course(0, 2), 0);
    }

    @Says(promise = 10, words = "BAD.")
    private static void courseBeyond() {
        LuteTabs x = new LuteTabs();
        for (int c : new int[] {-1, 5, MIN, MAX}) {
            for (int what = 0; what < 3; what++) due("course " + c, x.course(c, what), BAD);
        }
        for (int what : new int[] {-1, 3, MIN, MAX}) due("what " + what, x.course(0, what), BAD);
        x.courses(2);
        due("course 1 of 2", x.course(1, 0), 15);
        due("course 2 of 2", x.course(2, 0), BAD);
    }

    public static void main(String[] args) throws Exception {
        Sentences.run(NotesEdgeTest.class, due, 1, 10);
    }
}
