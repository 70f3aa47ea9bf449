/** Promises 11 to 23: each sentence that names an edge, with a test of its own. */
public final class LayingsEdgeTest extends Lutes {
    // ---- 11 to 13: least, fault, mend

    @Says(promise = 11, words = "LEAST.")
    private static void leastEdges() {
        LuteTabs none = new LuteTabs();
        due("no notes", none.least(), 0);
        due("it lays nothing", none.count(4), 0);
        LuteTabs x = new LuteTabs();
        x.set(0, 9);
        x.set(2, 9);
        x.set(3, 9);
        for (int n = 0; n < 14; n++) x.note(n, n % 2 == 0 ? 1 : 29, 1);
        due("fourteen notes, the farthest shifts", x.least(), 13 * 9 * 8 + 14 * 9);
        x.set(2, 0);
        due("behind set() of SHIFT", x.least(), 14 * 9);
        x.set(3, 0);
        due("behind set() of PRESS", x.least(), 0);
        LuteTabs bars = alike(2);
        addNotes(bars, 0, 11, 9, 0, 11, 9);
        due("a bar", bars.least(), 3);
        bars.set(4, 9);
        due("behind set() of BARRE", bars.least(), 11);
        LuteTabs span = alike(2);
        addNotes(span, 0, 11, 9, 0, 14, 9);
        due("span 3", span.least(), 2);
        span.set(1, 2);
        due("behind set() of SPAN", span.least(), NOT);
        span.set(1, 3);
        due("behind set() of SPAN", span.least(), 2);
    }

    @Says(promise = 11, words = "NOT: there is no GOOD LAYING.")
    private static void leastNot() {
        LuteTabs x = withNotes(0, 28, 1);
        due("fret 8", x.least(), NOT);
        x.set(0, 8);
        due("behind set() of F", x.least(), 1);
        x.tune(0, 19);
        due("behind tune()", x.least(), NOT);
        x.tune(0, 28);
        due("behind tune()", x.least(), 0);
        x.note(0, 29, 1);
        due("behind note()", x.least(), NOT);
        x.gone(1);
        due("behind gone()", x.least(), 0);
        fill(x, 0, 1, 0, 70, 1);
        x.read(0);
        due("behind read()", x.least(), NOT);
        x.clear();
        due("behind clear()", x.least(), 0);
        x.note(0, 3, 1);
        due("on course 4", x.least(), 1);
        x.courses(4);
        due("behind courses()", x.least(), NOT);
        typeAll(x, "0:a---;");
        x.back();
        due("behind back()", x.least(), 0);
    }

    @Says(promise = 12, words = "FAULT; NONE.")
    private static void faultEdges() {
        due("no notes", new LuteTabs().fault(), NONE);
        LuteTabs first = withNotes(199, 70, 1);
        due("chord 0", first.fault(), 0);
        LuteTabs x = new LuteTabs();
        for (int n = 0; n < 13; n++) x.note(n, 20, 1);
        due("none", x.fault(), NONE);
        x.note(13, 70, 1);
        due("chord 13", x.fault(), 13);
        x.gone(13);
        due("none", x.fault(), NONE);
        x.courses(2);
        x.tune(0, 0);
        x.tune(1, 0);
        due("chord 0", x.fault(), 0);
    }

    @Says(promise = 13, words = "BEST is LAID: its COST.")
    private static void mendEdges() {
        LuteTabs none = new LuteTabs();
        due("no notes", none.mend(), 0);
        due("laid", none.count(4), 1);
        LuteTabs x = withNotes(0, 21, 4, 0, 13, 4, 2, 17, 1, 4, 22, 2, 4, 13, 2);
        due("mend", x.mend(), 8);
        dueText("best", laying(x), "20120");
        x.lay(0, 4);
        x.lay(3, 1);
        due("over what was laid", x.mend(), 8);
        dueText("best again", laying(x), "20120");
        x.keep(0);
        due("slots stay", x.mend(), 8);
        due("slots stay", x.count(6), 1);
        LuteTabs all = new LuteTabs();
        for (int n = 0; n < 14; n++) all.note(n, n % 2 == 0 ? 0 : 20, 1);
        due("fourteen", all.mend(), 0);
        dueText("courses 4 and 0", laying(all), "40404040404040");
    }

    @Says(promise = 13, words = "NOT: there is none.")
    private static void mendNot() {
        LuteTabs x = withNotes(0, 21, 1, 1, 70, 1);
        due("none", x.mend(), NOT);
        due("nothing is laid", x.count(4), 0);
        x.lay(0, 3);
        x.keep(2);
        due("none", x.mend(), NOT);
        dueText("what was laid stays", laying(x), "30");
        due("slots stay", x.count(6), 1);
    }

    // ---- 14 to 17: lay, wrong, cost, chord

    @Says(promise = 14, words = "(if nothing is, all others are on COURSE 0): what it was (NONE: nothing was LAID)")
    private static void layFirst() {
        for (int n = 0; n < 14; n++) {
            LuteTabs x = new LuteTabs();
            for (int m = 0; m < 14; m++) x.note(m, 20, 1);
            x.lay(0, 3);
            x.lay(13, 2);
            x.tune(0, 20);
            due("nothing was", x.lay(n, 4), NONE);
            for (int m = 0; m < 14; m++) due("course", x.info(m, 5), m == n ? 4 : 0);
            due("was", x.lay(n, 4), 4);
            due("was", x.lay(n, 0), 4);
            due("was", x.lay(n, 1), 0);
        }
    }

    @Says(promise = 14, words = "BAD.")
    private static void layBeyond() {
        due("of no notes", new LuteTabs().lay(0, 0), BAD);
        LuteTabs x = withNotes(0, 20, 1, 1, 20, 1);
        x.courses(3);
        for (int n : new int[] {-1, 2, 14, MIN, MAX}) due("note " + n, x.lay(n, 0), BAD);
        for (int c : new int[] {-1, 3, 4, 5, MIN, MAX}) due("course " + c, x.lay(0, c), BAD);
        due("nothing is laid", x.count(4), 0);
        due("the greatest", x.lay(1, 2), NONE);
    }

    @Says(promise = 15, words = "WRONG. NOT: nothing is LAID.")
    private static void wrongEdges() {
        LuteTabs x = new LuteTabs();
        due("nothing laid", x.wrong(), NOT);
        x.mend();
        due("no notes", x.wrong(), 0);
        // Fourteen frets and, at each chord but the first, two on one course, a span beyond and, from
        // the fifth on, too many fingers.
        LuteTabs all = alike(5);
        for (int n = 0; n < 14; n++) all.note(n, 70 - 4 * n, 40);
        all.set(0, 2);
        all.lay(0, 0);
        due("all that can be", all.wrong(), 14 + 13 + 10 + 13);
        all.clear();
        due("nothing laid", all.wrong(), NOT);
    }

    @Says(promise = 16, words = "COST of what is LAID. NOT: nothing is.")
    private static void costEdges() {
        LuteTabs x = withNotes(0, 21, 1, 1, 27, 1);
        due("nothing laid", x.cost(), NOT);
        x.mend();
        // Fret 6 of course 1, then fret 7 of course 0.
        due("as least", x.cost(), 2 + 2);
        x.lay(0, 0);
        due("frets 1 and 7", x.cost(), 2 + 2 * 6);
        x.set(2, 9);
        due("by what is set now", x.cost(), 2 + 9 * 6);
        x.lay(1, 4);
        due("of what is not good, too", x.cost(), 2 + 9 * 26);
        x.note(2, 20, 1);
        due("nothing laid", x.cost(), NOT);
    }

    @Says(promise = 17, words = "Of a CHORD its TIME (what = 0), how many NOTES begin (1), how many are SOUNDING (2)")
    private static void chordWithoutLaying() {
        LuteTabs x = new LuteTabs();
        for (int n = 0; n < 14; n++) x.note(n < 3 ? 0 : 180 + n, 20, 40);
        due("chords", x.count(1), 12);
        for (int k = 0; k < 12; k++) {
            due("time", x.chord(k, 0), k == 0 ? 0 : 182 + k);
            due("begin", x.chord(k, 1), k == 0 ? 3 : 1);
            due("sounding", x.chord(k, 2), k == 0 ? 3 : k);
        }
    }

    @Says(promise = 17, words = "of what is LAID, LOW (3), FINGERS (4), whether it has a BAR (5: 1, 0), COST (6)")
    private static void chordOfLaid() {
        LuteTabs x = alike(5);
        addNotes(x, 0, 10, 1, 1, 70, 1, 2, 12, 9, 2, 12, 9, 2, 14, 9, 3, 11, 1);
        layAll(x, 0, 1, 0, 1, 2, 3);
        int[][] all = {{0, 0, 0, 0}, {60, 1, 0, 1}, {2, 2, 1, 116 + 3 + 1}, {1, 4, 0, 2 + 1}};
        for (int k = 0; k < 4; k++) {
            for (int what = 3; what < 7; what++) due("chord " + k + " " + what, x.chord(k, what), all[k][what - 3]);
        }
    }

    @Says(promise = 17, words = "BAD; NOT: 3 to 6, and nothing is LAID.")
    private static void chordRefused() {
        LuteTabs none = new LuteTabs();
        for (int what = 0; what < 7; what++) due("no chords", none.chord(0, what), BAD);
        LuteTabs x = withNotes(0, 20, 1, 1, 20, 1);
        for (int k = 0; k < 2; k++) {
            for (int what = 0; what < 3; what++) due("0 to 2", x.chord(k, what) == NOT ? 1 : 0, 0);
            for (int what = 3; what < 7; what++) due("3 to 6", x.chord(k, what), NOT);
        }
        for (int round = 0; round < 2; round++) {
            for (int k : new int[] {-1, 2, MIN, MAX}) {
                for (int what = 0; what < 7; what++) due("chord " + k, x.chord(k, what), BAD);
            }
            for (int what : new int[] {-1, 7, MIN, MAX}) due("what " + what, x.chord(0, what), BAD);
            x.mend();
        }
    }

    // ---- 18 to 20: without, key, easiest

    @Says(promise = 18, words = "LEAST, were a COURSE not there for any NOTE; NONE: there is no such LAYING.")
    private static void withoutEdges() {
        for (int c = 0; c < 5; c++) due("no notes", new LuteTabs().without(c), 0);
        LuteTabs x = withNotes(0, 20, 1, 1, 0, 1);
        int[] least = {1, 0, 0, 0, NONE};
        for (int c = 0; c < 5; c++) due("without " + c, x.without(c), least[c]);
        LuteTabs two = alike(2);
        two.note(0, 10, 1);
        due("the other is there", two.without(0), 0);
        due("the other is there", two.without(1), 0);
        two.note(0, 10, 1);
        due("two notes on one course", two.without(0), NONE);
        due("with both", two.least(), 0);
        // Courses keep their places: the bar is over the one that is not there.
        LuteTabs bar = alike(3);
        addNotes(bar, 0, 12, 1, 0, 12, 1);
        due("a bar past it", bar.without(1), 3);
        bar.set(4, 9);
        due("behind set()", bar.without(1), 11);
        LuteTabs none = withNotes(0, 70, 1);
        for (int c = 0; c < 5; c++) due("none with all", none.without(c), NONE);
    }

    @Says(promise = 18, words = "BAD.")
    private static void withoutBeyond() {
        LuteTabs x = withNotes(0, 20, 1);
        for (int c : new int[] {-1, 5, MIN, MAX}) due("without " + c, x.without(c), BAD);
        x.courses(2);
        due("course 2 of 2", x.without(2), BAD);
        due("course 1 of 2", x.without(1), 0);
    }

    @Says(promise = 19, words = "LEAST, were all NOTES k (-12 to 12) higher; NONE: there is no such LAYING.")
    private static void keyEdges() {
        LuteTabs x = alike(2);
        x.set(0, 9);
        x.note(0, 15, 1);
        for (int k = -12; k <= 12; k++) {
            int fret = 5 + k;
            due("key " + k, x.key(k), fret == 0 ? 0 : fret > 0 && fret <= 9 ? 1 : NONE);
        }
        due("the note stays", x.info(0, 1), 15);
        LuteTabs far = new LuteTabs();
        far.note(0, 8, 1);
        far.courses(2);
        far.tune(0, 20);
        far.tune(1, 60);
        due("12 higher", far.key(12), 0);
        due("11 higher", far.key(11), NONE);
        far.clear();
        far.note(0, 70, 1);
        due("-10: fret 0 of 60", far.key(-10), 0);
        due("-3: fret 7 of 60", far.key(-3), 1);
        due("-12", far.key(-12), NONE);
        far.clear();
        far.note(0, 0, 1);
        far.tune(0, 0);
        due("below all pitches", far.key(-1), NONE);
        due("0", far.key(0), 0);
        for (int k = -12; k <= 12; k++) due("no notes", new LuteTabs().key(k), 0);
        LuteTabs top = withNotes(0, 60, 1);
        top.tune(0, 60);
        top.set(0, 9);
        due("above 70 there is no fret", top.key(12), NONE);
        due("fret 9", top.key(9), 1);
        due("fret 10", top.key(10), NONE);
    }

    @Says(promise = 19, words = "BAD.")
    private static void keyBeyond() {
        LuteTabs x = new LuteTabs();
        for (int k : new int[] {-13, 13, MIN, MAX}) due("key " + k, x.key(k), BAD);
    }

    @Says(promise = 20, words = "By which k key() is least (what = 0)")
    private static void easiestByEachKey() {
        for (int k = -12; k <= 12; k++) {
            LuteTabs x = new LuteTabs();
            x.courses(2);
            x.tune(0, 30);
            x.tune(1, 30);
            x.set(0, 1);
            x.note(0, 30 - k, 1);
            due("open by " + k, x.easiest(0), k);
            due("its cost", x.easiest(1), 0);
        }
    }

    @Says(promise = 20, words = "of like ones the one nearest to 0, of like ones the one below")
    private static void easiestOfLikeOnes() {
        due("no notes: all are like", new LuteTabs().easiest(0), 0);
        for (int far = 1; far <= 12; far++) {
            LuteTabs x = new LuteTabs();
            x.courses(2);
            x.set(0, 1);
            x.tune(0, 30 + far);
            x.tune(1, 30 - far);
            x.note(0, 30, 1);
            due("as near on both sides", x.easiest(0), -far);
            if (far < 12) {
                x.tune(1, 30 - far - 1);
                due("the nearer one above", x.easiest(0), far);
            }
        }
    }

    @Says(promise = 20, words = "that key() (1)")
    private static void easiestCost() {
        due("no notes", new LuteTabs().easiest(1), 0);
        LuteTabs x = alike(2);
        addNotes(x, 0, 30, 1, 1, 31, 1);
        due("none near", x.key(0), NONE);
        x.set(0, 9);
        due("by -12 alone: frets 8 and 9", x.key(-12), 2 + 2);
        due("by which", x.easiest(0), -12);
        due("its cost", x.easiest(1), 4);
        x.set(2, 5);
        due("behind set()", x.easiest(1), 7);
    }

    @Says(promise = 20, words = "BAD: the least int; so is NOT: by none there is one.")
    private static void easiestRefused() {
        LuteTabs x = withNotes(0, 20, 1);
        for (int what : new int[] {-1, 2, MIN, MAX}) due("what " + what, x.easiest(what), MIN);
        LuteTabs none = withNotes(0, 70, 1);
        for (int what : new int[] {-1, 0, 1, 2}) due("by none", none.easiest(what), MIN);
        LuteTabs edge = withNotes(0, 39, 1);
        due("by the last", edge.easiest(0), -12);
        edge.clear();
        edge.note(0, 40, 1);
        due("by none", edge.easiest(0), MIN);
    }

    // ---- 21 to 23: keep, go, differ

    private static LuteTabs laid() {
        LuteTabs x = withNotes(0, 21, 1, 1, 22, 1);
        x.lay(0, 1);
        return x;
    }

    @Says(promise = 21, words = "What is LAID is kept in a SLOT: how many are not EMPTY.")
    private static void keepEdges() {
        LuteTabs x = laid();
        int[] order = {3, 0, 0, 2, 3, 1, 1};
        int[] full = {1, 2, 2, 3, 3, 4, 4};
        for (int i = 0; i < order.length; i++) {
            due("keep " + order[i], x.keep(order[i]), full[i]);
            due("count", x.count(6), full[i]);
        }
        x.lay(0, 2);
        due("it keeps what was", x.differ(3), 1);
        due("kept over", x.keep(3), 4);
        due("it keeps what is", x.differ(3), 0);
        due("the others stay", x.differ(0), 1);
        LuteTabs none = new LuteTabs();
        none.mend();
        due("a laying of no notes", none.keep(0), 1);
        due("go to it", none.go(0), 0);
        due("differ from it", none.differ(0), 0);
    }

    @Says(promise = 21, words = "BAD; NOT: nothing is LAID.")
    private static void keepRefused() {
        LuteTabs x = withNotes(0, 21, 1);
        for (int s : new int[] {-1, 4, MIN, MAX}) due("slot " + s, x.keep(s), BAD);
        for (int s = 0; s < 4; s++) due("nothing laid", x.keep(s), NOT);
        due("none kept", x.count(6), 0);
        due("no finding", x.count(8), 0);
    }

    @Says(promise = 22, words = "What a SLOT keeps is LAID: its COST.")
    private static void goEdges() {
        LuteTabs x = laid();
        x.keep(0);
        layAll(x, 4, 4);
        x.keep(3);
        due("go", x.go(0), 2 + 2 * 4);
        dueText("laid", laying(x), "10");
        due("go", x.go(3), 2 + 2);
        dueText("laid", laying(x), "44");
        due("go again", x.go(3), 2 + 2);
        due("slots stay", x.count(6), 2);
        x.set(2, 0);
        due("by what is set now", x.go(0), 2);
        x.lay(0, 3);
        due("the slot stays as it was", x.go(0), 2);
        dueText("laid", laying(x), "10");
        LuteTabs all = new LuteTabs();
        for (int n = 0; n < 14; n++) all.note(n, 20, 1);
        layAll(all, 0, 1, 2, 3, 4, 0, 1, 2, 3, 4, 0, 1, 2, 3);
        all.keep(2);
        all.mend();
        all.go(2);
        dueText("all fourteen", laying(all), "01234012340123");
    }

    @Says(promise = 22, words = "BAD; NULL.")
    private static void goRefused() {
        LuteTabs x = laid();
        for (int s : new int[] {-1, 4, MIN, MAX}) due("slot " + s, x.go(s), BAD);
        due("no finding", x.count(8), 0);
        for (int s = 0; s < 4; s++) due("empty", x.go(s), NULL);
        due("finding", x.count(8), 1);
        dueText("what is laid stays", laying(x), "10");
    }

    @Says(promise = 23, words = "How many NOTES are on another COURSE in a SLOT than LAID.")
    private static void differEdges() {
        LuteTabs x = new LuteTabs();
        for (int n = 0; n < 14; n++) x.note(n, 20, 1);
        x.lay(0, 0);
        x.keep(0);
        due("none", x.differ(0), 0);
        for (int n = 0; n < 14; n++) {
            x.lay(n, 1 + n % 4);
            due("one more", x.differ(0), n + 1);
        }
        x.keep(1);
        due("from itself", x.differ(1), 0);
        x.go(0);
        due("the other way round", x.differ(1), 14);
    }

    @Says(promise = 23, words = "BAD; NULL; NOT: nothing is LAID.")
    private static void differRefused() {
        LuteTabs x = withNotes(0, 20, 1);
        for (int s : new int[] {-1, 4, MIN, MAX}) due("slot " + s, x.differ(s), BAD);
        due("no finding", x.count(8), 0);
        // Where nothing is laid all slots are empty: NULL comes ahead of NOT each time.
        for (int s = 0; s < 4; s++) due("empty, and nothing laid", x.differ(s), NULL);
        due("finding", x.count(8), 1);
        x.mend();
        due("empty", x.differ(0), NULL);
        x.keep(0);
        due("kept", x.differ(0), 0);
        x.tune(0, 20);
        due("empty again, and nothing laid", x.differ(0), NULL);
    }

    public static void main(String[] args) throws Exception {
        Sentences.run(LayingsEdgeTest.class, due, 11, 23);
    }
}
