/** The sentences of 'What it is' and 'Terms' that name an edge, each with a test of its own. */
public final class TermsTest extends Lutes {
    /** Two courses at 10 and none else in reach: frets are pitches less 10. */
    private static LuteTabs atTen(int... told) {
        LuteTabs x = alike(2);
        addNotes(x, told);
        return x;
    }

    /** Five courses at 10, notes that all sound from time 0 on, laid as told. */
    private static LuteTabs sounding(int[] frets, int... on) {
        LuteTabs x = alike(5);
        for (int n = 0; n < frets.length; n++) x.note(n, 10 + frets[n], 40);
        layAll(x, on);
        return x;
    }

    private static int[] frets(int... all) {
        return all;
    }

    // ---- courses, frets, notes

    @Says(promise = 0, words = "An object is used for at most 512 calls after it has been made")
    private static void lastCall() {
        LuteTabs x = new LuteTabs();
        for (int i = 0; i < 508; i++) x.note(0, i % 71, 1);
        due("call 509", x.count(0), 3);
        due("call 510", x.mend(), NOT);
        due("call 511", x.gone(0), 2);
        due("call 512", x.info(0, 1), 1);
    }

    @Says(promise = 0, words = "COURSES 0 to C less 1 (C 2 to 5; 5 at first)")
    private static void coursesOfEachC() {
        due("at first", new LuteTabs().count(2), 5);
        for (int size = 2; size <= 5; size++) {
            for (int c = -1; c <= 5; c++) {
                LuteTabs x = withNotes(0, 21, 1);
                x.courses(size);
                boolean is = c >= 0 && c < size;
                due(size + ": course " + c, x.course(c, 0) == BAD ? 0 : 1, is ? 1 : 0);
                due(size + ": without " + c, x.without(c) == BAD ? 0 : 1, is ? 1 : 0);
                due(size + ": lay on " + c, x.lay(0, c), is ? NONE : BAD);
                due(size + ": tune " + c, x.tune(c, 7) == BAD ? 0 : 1, is ? 1 : 0);
            }
        }
    }

    @Says(promise = 0, words = "have an OPEN pitch each (0 to 60; 20, 15, 11, 6, 0 at first)")
    private static void openPitches() {
        LuteTabs x = new LuteTabs();
        int[] first = {20, 15, 11, 6, 0};
        for (int c = 0; c < 5; c++) {
            due("open at first of " + c, x.course(c, 0), first[c]);
            due("61", x.tune(c, 61), BAD);
            due("60", x.tune(c, 60), first[c]);
            due("-1", x.tune(c, -1), BAD);
            due("0", x.tune(c, 0), 60);
            due("is 0", x.course(c, 0), 0);
        }
    }

    @Says(promise = 0, words = "FRETS: 0 to F (F 1 to 9; 7 at first)")
    private static void fretsOfEachF() {
        LuteTabs first = atTen(0, 17, 1, 1, 18, 1);
        due("fret 7 at first", first.info(0, 4), 2);
        due("fret 8 at first", first.info(1, 4), 0);
        for (int f = 1; f <= 9; f++) {
            LuteTabs x = atTen(0, 9, 1, 1, 10, 1, 2, 10 + f, 1, 3, 11 + f, 1);
            due("set " + f, x.set(0, f), 7);
            due(f + ": fret -1", x.info(0, 4), 0);
            due(f + ": fret 0", x.info(1, 4), 2);
            due(f + ": fret F", x.info(2, 4), 2);
            due(f + ": fret above F", x.info(3, 4), 0);
            due(f + ": notes for a course", x.course(0, 1), 2);
        }
    }

    @Says(promise = 0, words = "NOTES, 14 at most")
    private static void fourteenNotes() {
        LuteTabs x = new LuteTabs();
        for (int n = 0; n < 14; n++) due("note", x.note(n, 20, 1), n);
        due("the fifteenth", x.note(14, 20, 1), FULL);
        due("the fifteenth ahead of all", x.note(0, 0, 1), FULL);
        due("fourteen", x.count(0), 14);
        due("fourteen chords", x.count(1), 14);
        due("the last", x.info(13, 0), 13);
        due("no note 14", x.info(14, 0), BAD);
    }

    @Says(promise = 0, words = "have a TIME (0 to 199)")
    private static void times() {
        LuteTabs x = new LuteTabs();
        due("-1", x.note(-1, 20, 1), BAD);
        due("200", x.note(200, 20, 1), BAD);
        due("199", x.note(199, 20, 1), 0);
        due("0", x.note(0, 20, 1), 0);
        due("is 0", x.info(0, 0), 0);
        due("is 199", x.info(1, 0), 199);
    }

    @Says(promise = 0, words = "a PITCH (0 to 70)")
    private static void pitches() {
        LuteTabs x = new LuteTabs();
        due("-1", x.note(0, -1, 1), BAD);
        due("71", x.note(0, 71, 1), BAD);
        due("70", x.note(0, 70, 1), 0);
        due("0", x.note(0, 0, 1), 0);
        due("is 0", x.info(0, 1), 0);
        due("is 70", x.info(1, 1), 70);
    }

    @Says(promise = 0, words = "LAST (1 to 40)")
    private static void lasts() {
        LuteTabs x = new LuteTabs();
        due("0", x.note(0, 20, 0), BAD);
        due("-1", x.note(0, 20, -1), BAD);
        due("41", x.note(0, 20, 41), BAD);
        due("40", x.note(0, 20, 40), 0);
        due("1", x.note(0, 20, 1), 1);
        due("is 40", x.info(0, 2), 40);
        due("is 1", x.info(1, 2), 1);
    }

    @Says(promise = 0, words = "they are numbered 0 on by TIMES, of like ones by PITCH, of like ones as they were told")
    private static void numbers() {
        LuteTabs x = new LuteTabs();
        due("the first", x.note(5, 10, 40), 0);
        due("like time and pitch: behind, though it lasts less", x.note(5, 10, 1), 1);
        due("a time less, a pitch more", x.note(4, 70, 9), 0);
        due("like time, a pitch less", x.note(5, 9, 9), 1);
        due("a time more, a pitch less", x.note(6, 0, 9), 4);
        int[][] all = {{4, 70, 9}, {5, 9, 9}, {5, 10, 40}, {5, 10, 1}, {6, 0, 9}};
        for (int n = 0; n < all.length; n++) {
            for (int what = 0; what < 3; what++) due("note " + n + " " + what, x.info(n, what), all[n][what]);
        }
        due("gone", x.gone(2), 4);
        due("told last of the like ones", x.note(5, 10, 40), 3);
    }

    @Says(promise = 0, words = "CHORDS, 0 on, are the TIMES at which NOTES begin")
    private static void chordsAreTimes() {
        LuteTabs x = new LuteTabs();
        due("none", x.count(1), 0);
        due("no chord 0", x.chord(0, 0), BAD);
        addNotes(x, 7, 20, 40, 7, 21, 1, 3, 20, 9, 199, 20, 1, 0, 20, 1);
        due("four times", x.count(1), 4);
        int[] times = {0, 3, 7, 199};
        int[] begin = {1, 1, 2, 1};
        for (int k = 0; k < 4; k++) {
            due("time", x.chord(k, 0), times[k]);
            due("begin", x.chord(k, 1), begin[k]);
        }
        due("no chord 4", x.chord(4, 0), BAD);
        int[] chordOf = {0, 1, 2, 2, 3};
        for (int n = 0; n < 5; n++) due("chord of " + n, x.info(n, 3), chordOf[n]);
    }

    @Says(promise = 0, words = "three at most at each")
    private static void threeAtOnce() {
        LuteTabs x = withNotes(9, 20, 1, 9, 20, 1);
        due("the third", x.note(9, 20, 1), 2);
        due("the fourth", x.note(9, 0, 1), FULL);
        due("ahead of it", x.note(8, 20, 1), 0);
        due("behind it", x.note(10, 20, 1), 4);
        due("still", x.note(9, 20, 1), FULL);
        due("one is gone", x.gone(1), 4);
        due("room again", x.note(9, 20, 1), 3);
    }

    @Says(promise = 0, words = "SOUNDING at a CHORD are NOTES that begin at it")
    private static void soundingBegin() {
        LuteTabs x = withNotes(199, 20, 1, 199, 15, 1, 199, 11, 40, 0, 20, 1);
        due("one", x.chord(0, 2), 1);
        due("three", x.chord(1, 2), 3);
    }

    @Says(promise = 0, words = "those that began ahead of it and whose TIME and LAST are more than its TIME")
    private static void soundingHeld() {
        for (int last = 1; last <= 40; last++) {
            LuteTabs x = withNotes(10, 20, last, 10 + last, 15, 1);
            due(last + ": at its end", x.chord(1, 2), 1);
            if (last > 1) {
                x.note(10 + last - 1, 11, 1);
                due(last + ": just ahead of its end", x.chord(1, 2), 2);
                due(last + ": at its end", x.chord(2, 2), 1);
            }
            due("behind it", x.chord(0, 2), 1);
        }
        LuteTabs late = withNotes(159, 20, 40, 160, 15, 40, 199, 11, 1);
        due("199 is the end of the one and not of the other", late.chord(2, 2), 2);
        LuteTabs all = new LuteTabs();
        for (int n = 0; n < 14; n++) all.note(n, 20, 40);
        for (int k = 0; k < 14; k++) due("all that began", all.chord(k, 2), k + 1);
    }

    // ---- low, bar, fingers

    @Says(promise = 0, words = "FRET of a NOTE on a COURSE: its PITCH less OPEN")
    private static void fretsOfNotes() {
        LuteTabs x = withNotes(0, 0, 1, 1, 70, 1);
        x.tune(1, 60);
        x.sheet(0, 1, 2);
        layAll(x, 1, 4);
        x.write(0);
        due("the least fret", x.get(0, 0), -60);
        due("the greatest fret", x.get(0, 1), 70);
    }

    @Says(promise = 0, words = "LOW is the least FRET above 0 of those SOUNDING (0: there is none)")
    private static void low() {
        due("one at 0", sounding(frets(0), 0).chord(0, 3), 0);
        due("one at 1", sounding(frets(1), 0).chord(0, 3), 1);
        LuteTabs x = sounding(frets(0, 6, 4, 5), 0, 1, 2, 3);
        int[] lows = {0, 6, 4, 4};
        for (int k = 0; k < 4; k++) due("at chord " + k, x.chord(k, 3), lows[k]);
        LuteTabs held = alike(5);
        addNotes(held, 0, 13, 2, 1, 10, 1, 2, 10, 1);
        layAll(held, 0, 1, 2);
        due("of one that is held", held.chord(1, 3), 3);
        due("of one that ended", held.chord(2, 3), 0);
    }

    @Says(promise = 0, words = "it has a BAR, if two or more SOUNDING have FRET LOW, that is not 0")
    private static void barOfTwo() {
        LuteTabs x = sounding(frets(2, 2, 2, 2, 2), 0, 1, 2, 3, 4);
        due("one", x.chord(0, 5), 0);
        for (int k = 1; k < 5; k++) due("two or more, some of them held", x.chord(k, 5), 1);
        due("two at a fret above low", sounding(frets(1, 2, 2), 0, 1, 2).chord(2, 5), 0);
        due("two at low, one above", sounding(frets(3, 2, 2), 0, 1, 2).chord(2, 5), 1);
        due("two at 0", sounding(frets(0, 0), 0, 1).chord(1, 5), 0);
        due("two at 0, one above", sounding(frets(0, 0, 1), 0, 1, 2).chord(2, 5), 0);
        LuteTabs ended = alike(5);
        addNotes(ended, 0, 12, 3, 3, 12, 1);
        layAll(ended, 0, 1);
        due("the one ended as the other began", ended.chord(1, 5), 0);
        LuteTabs behind = alike(5);
        addNotes(behind, 0, 12, 1, 0, 12, 1, 1, 10, 1, 1, 10, 1);
        layAll(behind, 0, 1, 0, 1);
        due("open ones behind a bar", behind.chord(1, 5), 0);
        due("their fingers", behind.chord(1, 4), 0);
        due("their cost", behind.chord(1, 6), 0);
        due("least", behind.least(), 3);
    }

    @Says(promise = 0, words = "no one SOUNDING at FRET 0 is on a COURSE between the least and the greatest of these")
    private static void barAndOpenCourses() {
        due("open one between", sounding(frets(2, 2, 0), 0, 2, 1).chord(2, 5), 0);
        due("open one below", sounding(frets(2, 2, 0), 1, 2, 0).chord(2, 5), 1);
        due("open one above", sounding(frets(2, 2, 0), 1, 2, 3).chord(2, 5), 1);
        due("no one between", sounding(frets(2, 2), 0, 4).chord(1, 5), 1);
        due("fretted one between", sounding(frets(2, 2, 3), 0, 4, 2).chord(2, 5), 1);
        due("one of the bar between, and an open one", sounding(frets(2, 2, 2, 0), 0, 4, 2, 3).chord(3, 5), 0);
        due("beside the least", sounding(frets(2, 2, 0), 0, 4, 1).chord(2, 5), 0);
        due("beside the greatest", sounding(frets(2, 2, 0), 4, 0, 3).chord(2, 5), 0);
        LuteTabs held = alike(5);
        addNotes(held, 0, 10, 2, 1, 12, 3, 1, 12, 3, 3, 13, 1);
        layAll(held, 1, 0, 2, 3);
        due("a held open one", held.chord(1, 5), 0);
        due("when it has ended", held.chord(2, 5), 1);
    }

    @Says(promise = 0, words = "between the least and the greatest of these")
    private static void barOfEachTwoCourses() {
        LuteTabs x = alike(5);
        // The chord ahead has LOW on the outermost courses: nothing of it counts at the next one.
        addNotes(x, 0, 13, 1, 0, 13, 1, 1, 10, 1, 1, 12, 1, 1, 12, 1);
        for (int least = 0; least < 5; least++) {
            for (int greatest = least + 1; greatest < 5; greatest++) {
                for (int open = 0; open < 5; open++) {
                    layAll(x, 0, 4, open, greatest, least);
                    boolean between = open > least && open < greatest;
                    due(least + " to " + greatest + ", open " + open, x.chord(1, 5), between ? 0 : 1);
                }
            }
        }
    }

    @Says(promise = 0, words = "FINGERS: how many SOUNDING have FRETS above 0, all of the BAR as one")
    private static void fingers() {
        due("none", sounding(frets(0, 0), 0, 1).chord(1, 4), 0);
        due("one", sounding(frets(0, 1), 0, 1).chord(1, 4), 1);
        due("five", sounding(frets(1, 2, 3, 4, 4), 0, 1, 2, 3, 4).chord(4, 4), 5);
        due("a bar of two", sounding(frets(1, 1, 3, 4, 4), 0, 1, 2, 3, 4).chord(4, 4), 4);
        due("a bar of five", sounding(frets(1, 1, 1, 1, 1), 0, 1, 2, 3, 4).chord(4, 4), 1);
        due("no bar over an open one", sounding(frets(1, 1, 0, 4, 4), 0, 2, 1, 3, 4).chord(4, 4), 4);
    }

    // ---- good layings

    @Says(promise = 0, words = "A LAYING is GOOD, if all FRETS are 0 to F")
    private static void goodFrets() {
        for (int f = 1; f <= 9; f++) {
            int[][] kinds = {{-1, 0}, {0, 1}, {f, 1}, {f + 1, 0}};
            for (int[] kind : kinds) {
                LuteTabs x = atTen(0, 10 + kind[0], 1);
                x.set(0, f);
                due("F " + f + ", fret " + kind[0], x.count(3), kind[1]);
            }
        }
    }

    @Says(promise = 0, words = "at each CHORD no two SOUNDING are on one COURSE")
    private static void goodCourses() {
        for (int size = 2; size <= 5; size++) {
            LuteTabs x = alike(size);
            for (int n = 0; n < size; n++) x.note(n, 10, 40);
            due("as many as courses", x.least(), 0);
            x.note(size, 10, 40);
            due("one more", x.least(), NOT);
            due("at the last chord", x.fault(), size);
            x.gone(size);
            x.note(40, 10, 40);
            due("as the first ends", x.least(), 0);
        }
    }

    @Says(promise = 0, words = "FINGERS are 4 at most")
    private static void goodFingers() {
        LuteTabs x = alike(5);
        x.set(1, 6);
        addNotes(x, 0, 11, 9, 0, 12, 9, 0, 13, 9, 1, 14, 9);
        due("four", x.count(3), 1);
        x.note(2, 10, 9);
        due("four and an open one", x.count(3), 1);
        x.gone(4);
        x.note(2, 15, 9);
        due("five", x.count(3), 0);
        due("at chord 2", x.fault(), 2);
        x.gone(4);
        x.note(2, 11, 9);
        due("five notes, two in a bar", x.count(3), 1);
    }

    @Says(promise = 0, words = "no FRET above 0 is more than SPAN (0 to 6; 3 at first) above LOW")
    private static void goodSpans() {
        LuteTabs first = atTen(0, 11, 1, 0, 14, 1);
        due("3 at first", first.count(3), 1);
        LuteTabs beyond = atTen(0, 11, 1, 0, 15, 1);
        due("3 at first", beyond.count(3), 0);
        for (int span = 0; span <= 6; span++) {
            for (int low = 1; low + span + 1 <= 9; low++) {
                LuteTabs x = atTen(0, 10 + low, 2, 1, 10 + low + span, 1);
                x.set(0, 9);
                x.set(1, span);
                due("span " + span + " from " + low, x.count(3), 1);
                x.gone(1);
                x.note(1, 10 + low + span + 1, 1);
                due("one more than span " + span + " from " + low, x.count(3), 0);
            }
        }
        LuteTabs open = atTen(0, 10, 1, 0, 19, 1);
        open.set(0, 9);
        open.set(1, 0);
        due("fret 0 is not of the span", open.count(3), 1);
        LuteTabs allOpen = atTen(0, 10, 1, 0, 10, 1);
        allOpen.set(1, 0);
        due("no fret above 0, SPAN 0", allOpen.mend(), 0);
        due("no fret above 0, SPAN 0", allOpen.wrong(), 0);
    }

    // ---- costs

    @Says(promise = 0, words = "SHIFT (0 to 9; 2 at first) times how far LOW is from LOW of the CHORD ahead of it")
    private static void shifts() {
        for (int shift = 0; shift <= 9; shift++) {
            LuteTabs x = atTen(0, 12, 1, 1, 17, 1, 2, 11, 1, 3, 11, 1);
            x.lay(0, 0);
            x.set(3, 0);
            due("2 at first", x.chord(1, 6), 10);
            x.set(2, shift);
            int[] far = {0, 5, 6, 0};
            for (int k = 0; k < 4; k++) due("shift " + shift + " to chord " + k, x.chord(k, 6), shift * far[k]);
            due("all", x.cost(), shift * 11);
        }
    }

    @Says(promise = 0, words = "if both are above 0")
    private static void noShift() {
        LuteTabs x = atTen(0, 17, 1, 1, 10, 1, 2, 11, 1, 3, 13, 1);
        x.lay(0, 0);
        x.set(3, 0);
        due("the first chord", x.chord(0, 6), 0);
        due("to nothing", x.chord(1, 6), 0);
        due("from nothing", x.chord(2, 6), 0);
        due("both above 0", x.chord(3, 6), 4);
        due("all", x.cost(), 4);
        due("least", x.least(), 4);
    }

    @Says(promise = 0, words = "PRESS (0 to 9; 1 at first) times how many NOTES that begin have a FRET above 0")
    private static void presses() {
        for (int press = 0; press <= 9; press++) {
            LuteTabs x = alike(5);
            addNotes(x, 0, 12, 9, 0, 10, 9, 1, 13, 9, 1, 14, 9, 2, 10, 9);
            layAll(x, 0, 1, 2, 3, 4);
            due("1 at first", x.cost(), 3);
            x.set(3, press);
            int[] pressed = {1, 2, 0};
            for (int k = 0; k < 3; k++) due("press " + press + " at " + k, x.chord(k, 6), press * pressed[k]);
            due("all", x.cost(), press * 3);
        }
    }

    @Says(promise = 0, words = "BARRE (0 to 9; 1 at first), if it has a BAR")
    private static void barres() {
        for (int barre = 0; barre <= 9; barre++) {
            LuteTabs x = alike(5);
            addNotes(x, 0, 12, 9, 0, 12, 9, 1, 10, 1, 2, 11, 1);
            layAll(x, 0, 1, 2, 3);
            x.set(2, 0);
            x.set(3, 0);
            due("1 at first", x.chord(0, 6), 1);
            x.set(4, barre);
            int[] bars = {1, 1, 0};
            for (int k = 0; k < 3; k++) due("barre " + barre + " at " + k, x.chord(k, 6), barre * bars[k]);
            due("a held bar is charged again", x.cost(), barre * 2);
        }
    }

    @Says(promise = 0, words = "COST of a LAYING: that of all its CHORDS together")
    private static void costOfAll() {
        LuteTabs none = new LuteTabs();
        none.mend();
        due("of no chords", none.cost(), 0);
        LuteTabs x = new LuteTabs();
        x.set(2, 9);
        x.set(3, 9);
        for (int n = 0; n < 14; n++) x.note(n, n % 2 * 70, 1);
        x.tune(0, 0);
        x.lay(0, 0);
        due("frets 0 and 70 of fourteen chords", x.cost(), 7 * 9);
        x.tune(4, 1);
        x.clear();
        for (int n = 0; n < 14; n++) x.note(n, 1 + n % 2 * 69, 1);
        x.lay(0, 0);
        due("frets 1 and 70 of fourteen chords", x.cost(), 13 * 9 * 69 + 14 * 9);
    }

    // ---- best and fault

    @Says(promise = 0, words = "LEAST: the least COST of a GOOD LAYING")
    private static void leastOfGoodOnes() {
        LuteTabs x = new LuteTabs();
        x.courses(2);
        x.tune(0, 10);
        x.tune(1, 8);
        x.set(1, 6);
        // Note 0 would be cheapest open on course 0; note 1 lies nowhere else.
        addNotes(x, 0, 10, 9, 1, 17, 1);
        due("not the cheapest beginning", x.mend(), 2);
        dueText("courses", laying(x), "10");
        due("wrong", x.wrong(), 0);
        x.lay(0, 0);
        due("a cheaper one is not good", x.cost(), 1);
        due("a cheaper one is not good", x.wrong(), 1);
        due("least stays", x.least(), 2);
    }

    @Says(promise = 0, words = "A LAYING is a COURSE for each NOTE.")
    private static void heldNotesStay() {
        LuteTabs x = new LuteTabs();
        x.courses(2);
        x.tune(0, 14);
        x.tune(1, 10);
        x.set(0, 9);
        x.set(1, 4);
        // 15 and 19 can't be at frets 1 and 9; at 5 and 5 the first of them leaves course 0 to 23.
        addNotes(x, 0, 15, 2, 0, 19, 1, 1, 23, 1);
        due("mend", x.mend(), 3 + 1);
        dueText("courses", laying(x), "100");
        x.gone(1);
        x.note(0, 19, 2);
        due("the second is held there, too", x.mend(), NOT);
        due("at chord 1", x.fault(), 1);
    }

    @Says(promise = 0, words = "of like ones the one whose COURSE of NOTE 0 is the least, of like ones of NOTE 1, and so on")
    private static void firstOfLikeOnes() {
        LuteTabs apart = alike(5);
        for (int n = 0; n < 14; n++) apart.note(n, 10, 1);
        due("mend", apart.mend(), 0);
        dueText("apart", laying(apart), "00000000000000");
        LuteTabs held = alike(5);
        for (int n = 0; n < 14; n++) held.note(n, 10, 3);
        due("mend", held.mend(), 0);
        dueText("three at a time", laying(held), "01201201201201");
        LuteTabs five = alike(5);
        for (int n = 0; n < 14; n++) five.note(n, 10, 5);
        due("mend", five.mend(), 0);
        dueText("five at a time", laying(five), "01234012340123");
        LuteTabs last = alike(3);
        last.tune(0, 60);
        for (int n = 0; n < 13; n++) last.note(n, 60, 1);
        last.note(13, 10, 1);
        due("mend", last.mend(), 0);
        dueText("note 13 alone may choose", laying(last), "00000000000001");
    }

    @Says(promise = 0, words = "BEST is the one with that COST")
    private static void costAheadOfOrder() {
        LuteTabs x = new LuteTabs();
        x.courses(2);
        x.tune(0, 10);
        x.tune(1, 12);
        x.note(0, 12, 1);
        due("open on course 1", x.mend(), 0);
        dueText("courses", laying(x), "1");
        x.set(3, 0);
        due("now course 0 costs as little", x.mend(), 0);
        dueText("courses", laying(x), "0");
        // Only the last chord makes the one beginning dearer than the other.
        LuteTabs late = new LuteTabs();
        late.courses(2);
        late.tune(0, 10);
        late.tune(1, 11);
        addNotes(late, 0, 14, 1, 1, 10, 1, 2, 14, 1, 3, 18, 1);
        due("mend", late.mend(), 3 + 2 * 3);
        dueText("courses", laying(late), "0001");
    }

    @Says(promise = 0, words = "If there is none, FAULT is the first CHORD so that NOTES that begin at it or ahead of it have none by themselves")
    private static void faults() {
        for (int at = 0; at < 14; at++) {
            LuteTabs x = new LuteTabs();
            for (int n = 0; n < 14; n++) x.note(n, n == at ? 60 : 20, 1);
            due("at chord " + at, x.fault(), at);
            if (at < 13) {
                x.gone(13);
                x.note(13, 70, 1);
                due("the first of two", x.fault(), at);
            }
        }
        due("no notes", new LuteTabs().fault(), NONE);
        due("none fails", withNotes(0, 20, 1).fault(), NONE);
    }

    @Says(promise = 0, words = "(CHORDS behind are not looked at)")
    private static void faultsBehind() {
        LuteTabs x = new LuteTabs();
        x.courses(2);
        x.tune(0, 10);
        x.tune(1, 8);
        x.set(1, 6);
        // Note 0 may be on both courses, 17 on course 0 alone, 8 on course 1 alone.
        addNotes(x, 0, 10, 9, 1, 17, 9, 2, 8, 9);
        due("three notes, two courses", x.fault(), 2);
        x.gone(1);
        due("note 0 on course 0", x.fault(), NONE);
        dueText("courses", x.mend() + " " + laying(x), "0 01");
        x.gone(1);
        x.note(1, 17, 9);
        due("note 0 on course 1", x.fault(), NONE);
        x.gone(1);
        x.note(1, 60, 1);
        due("chord 0 is none by itself", x.fault(), 1);
    }

    // ---- what is laid, and what is wrong with it

    private interface Act {
        int on(LuteTabs x);
    }

    private static LuteTabs laidAndKept() {
        LuteTabs x = withNotes(0, 21, 4, 2, 17, 1);
        x.mend();
        x.keep(1);
        x.keep(3);
        x.sheet(0, 0, 2);
        return x;
    }

    @Says(promise = 0, words = "LAID is a LAYING, or nothing: at first")
    private static void nothingLaidAtFirst() {
        LuteTabs x = new LuteTabs();
        due("anything", x.count(4), 0);
        due("wrong", x.wrong(), NOT);
        due("cost", x.cost(), NOT);
        due("kept", x.keep(0), NOT);
        due("tablature", x.text(NONE), NOT);
        for (int c = 0; c < 5; c++) due("laid on " + c, x.course(c, 2), 0);
    }

    @Says(promise = 0, words = "behind each courses(), tune(), set() of F, note(), gone(), clear(), read() that was not refused (SLOTS are EMPTY then, too")
    private static void nothingLaidBehind() {
        Act[] acts = {x -> x.courses(5), x -> x.tune(0, 20), x -> x.set(0, 7), x -> x.note(1, 1, 1), x -> x.gone(0),
            x -> x.clear(), x -> x.read(0)};
        int[] answers = {5, 20, 7, 1, 1, 2, 0};
        for (int i = 0; i < acts.length; i++) {
            LuteTabs x = laidAndKept();
            due("act " + i, acts[i].on(x), answers[i]);
            due("laid behind act " + i, x.count(4), 0);
            due("slots behind act " + i, x.count(6), 0);
            for (int s = 0; s < 4; s++) due("slot behind act " + i, x.go(s), NULL);
        }
        LuteTabs empty = new LuteTabs();
        empty.mend();
        empty.keep(0);
        due("clear of no notes", empty.clear(), 0);
        due("laid", empty.count(4), 0);
        due("slots", empty.count(6), 0);
    }

    @Says(promise = 0, words = "behind each courses(), tune(), set() of F")
    private static void laidBehindOthers() {
        Act[] acts = {x -> x.set(1, 0), x -> x.set(2, 0), x -> x.set(3, 0), x -> x.set(4, 0), x -> x.least(),
            x -> x.fault(), x -> x.mend(), x -> x.lay(0, 1), x -> x.without(0), x -> x.key(3), x -> x.easiest(0),
            x -> x.go(1), x -> x.keep(1), x -> x.differ(3), x -> x.type(48), x -> x.wipe(), x -> x.flaw(),
            x -> x.sheet(1, 1, 3), x -> x.lose(0), x -> x.put(0, 0, 0, 1), x -> x.copy(0, 0, 0, 1, 1),
            x -> x.write(0), x -> (int) x.digest(), x -> x.courses(6), x -> x.tune(0, 61), x -> x.set(0, 0),
            x -> x.note(0, 71, 1), x -> x.gone(2), x -> x.read(3), x -> x.back()};
        for (int i = 0; i < acts.length; i++) {
            LuteTabs x = laidAndKept();
            acts[i].on(x);
            due("laid behind act " + i, x.count(4), 1);
            due("slots behind act " + i, x.count(6), 2);
        }
    }

    @Says(promise = 0, words = "and behind back()")
    private static void slotsBehindBack() {
        LuteTabs x = laidAndKept();
        typeAll(x, "0:a----;");
        due("back", x.back(), 1);
        due("slots", x.count(6), 0);
        due("laid", x.count(4), 1);
    }

    @Says(promise = 0, words = "how many NOTES have a FRET that is not 0 to F")
    private static void wrongFrets() {
        for (int f = 1; f <= 9; f++) {
            LuteTabs x = atTen(0, 9, 1, 1, 10, 1, 2, 10 + f, 1, 3, 11 + f, 1, 4, 70, 1, 5, 0, 1);
            x.set(0, f);
            x.lay(0, 0);
            due("F " + f + ": -1, above F, 60 and -10", x.wrong(), 4);
        }
    }

    @Says(promise = 0, words = "how many CHORDS have two SOUNDING on one COURSE")
    private static void wrongCourses() {
        due("two", sounding(frets(0, 0), 1, 1).wrong(), 1);
        due("apart", sounding(frets(0, 0), 1, 2).wrong(), 0);
        LuteTabs three = alike(5);
        addNotes(three, 0, 10, 1, 0, 10, 1, 0, 10, 1);
        three.lay(0, 0);
        due("three at one chord", three.wrong(), 1);
        due("two pairs: a chord counts once", sounding(frets(0, 0, 0, 0), 1, 1, 2, 2).wrong(), 3);
        LuteTabs ended = alike(5);
        addNotes(ended, 0, 10, 3, 3, 10, 1);
        ended.lay(0, 0);
        due("the one ended as the other began", ended.wrong(), 0);
    }

    @Says(promise = 0, words = "how many have more than 4 FINGERS")
    private static void wrongFingers() {
        LuteTabs x = sounding(frets(1, 2, 3, 4, 0), 0, 1, 2, 3, 4);
        due("four", x.wrong(), 0);
        due("five at one chord", sounding(frets(1, 2, 3, 4, 4), 0, 1, 2, 3, 4).wrong(), 1);
        due("five notes, two in a bar", sounding(frets(1, 1, 3, 4, 4), 0, 1, 2, 3, 4).wrong(), 0);
        due("five, and six with two on one course", sounding(frets(1, 2, 3, 4, 4, 4), 0, 1, 2, 3, 4, 4).wrong(), 3);
    }

    @Says(promise = 0, words = "how many have a FRET above 0 more than SPAN above LOW")
    private static void wrongSpans() {
        LuteTabs x = sounding(frets(1, 4, 0), 0, 1, 2);
        due("within", x.wrong(), 0);
        x.set(1, 2);
        due("beyond at two chords", x.wrong(), 2);
        due("one more than span", sounding(frets(1, 5), 0, 1).wrong(), 1);
        due("two frets beyond: a chord counts once", sounding(frets(1, 5, 6), 0, 1, 2).wrong(), 2);
        LuteTabs greatest = sounding(frets(1, 7), 0, 1);
        greatest.set(1, 6);
        due("span 6", greatest.wrong(), 0);
        greatest.set(1, 5);
        due("span 5", greatest.wrong(), 1);
        due("one fret alone is LOW", sounding(frets(7), 0).wrong(), 0);
    }

    @Says(promise = 0, words = "all together")
    private static void wrongAllTogether() {
        LuteTabs none = new LuteTabs();
        none.mend();
        due("of no notes", none.wrong(), 0);
        // Chord 4: frets 1, 2, 3, 8 and 9, the last two of them beyond F, on one course and beyond the span.
        due("four kinds", sounding(frets(1, 2, 3, 8, 9), 0, 1, 2, 3, 3).wrong(), 2 + 1 + 1 + 2);
    }

    @Says(promise = 0, words = "FRETS below 0 count as 0")
    private static void fretsBelowZero() {
        LuteTabs x = sounding(frets(-1, 2, 2), 1, 0, 2);
        due("LOW of -1 alone", x.chord(0, 3), 0);
        due("LOW", x.chord(2, 3), 2);
        due("no bar over it", x.chord(2, 5), 0);
        due("FINGERS", x.chord(2, 4), 2);
        due("COST of -1 alone", x.chord(0, 6), 0);
        due("COST from LOW 0", x.chord(1, 6), 1);
        due("it is wrong, and nothing else is", x.wrong(), 1);
        LuteTabs two = sounding(frets(-4, -4), 0, 1);
        due("no bar of two", two.chord(1, 5), 0);
        due("no fingers", two.chord(1, 4), 0);
        LuteTabs far = sounding(frets(-10, 1), 0, 1);
        due("no span", far.wrong(), 1);
    }

    @Says(promise = 0, words = "LOW and BAR are by FRETS, however many are on a COURSE")
    private static void barOnOneCourse() {
        LuteTabs x = sounding(frets(2, 2), 3, 3);
        due("a bar", x.chord(1, 5), 1);
        due("its finger", x.chord(1, 4), 1);
        due("LOW", x.chord(1, 3), 2);
        due("its cost", x.chord(1, 6), 2);
        LuteTabs mixed = sounding(frets(4, 2, 3), 1, 1, 1);
        due("LOW of three on one course", mixed.chord(2, 3), 2);
        due("fingers", mixed.chord(2, 4), 3);
    }

    // ---- texts, sheets, slots, findings

    @Says(promise = 0, words = "its TIME in figures, without needless zeros, ':'")
    private static void timesInFigures() {
        for (int time : new int[] {0, 1, 9, 10, 11, 99, 100, 101, 109, 110, 199}) {
            LuteTabs x = withNotes(time, 20, 1);
            x.mend();
            dueText("time " + time, tablature(x), time + ":a----;");
        }
    }

    @Says(promise = 0, words = "for each COURSE a letter, a for FRET 0, b for 1, and so on, of the NOTE that begins there, or - for none")
    private static void letters() {
        for (int f = 0; f <= 9; f++) {
            LuteTabs x = alike(2);
            x.set(0, 9);
            x.note(0, 10 + f, 40);
            x.note(3, 10, 1);
            layAll(x, 1, 0);
            dueText("fret " + f, tablature(x), "0:-" + "abcdefghij".charAt(f) + ";3:a-;");
        }
    }

    @Says(promise = 0, words = "TABLATURE of what is LAID and not WRONG is a text")
    private static void tablatureOfNone() {
        LuteTabs none = new LuteTabs();
        due("nothing laid", none.text(NONE), NOT);
        none.mend();
        due("no chords", none.text(NONE), 0);
        LuteTabs x = withNotes(0, 27, 1);
        x.lay(0, 0);
        due("fret 7", x.text(NONE), 8);
        x.set(0, 6);
        x.lay(0, 0);
        due("fret 7 of 6", x.text(NONE), NOT);
    }

    @Says(promise = 0, words = "THE TEXT has up to 80 bytes")
    private static void eightyBytes() {
        LuteTabs x = new LuteTabs();
        for (int i = 1; i <= 80; i++) due("byte", x.type(i), i);
        due("the next", x.type(48), FULL);
        due("bytes", x.count(7), 80);
        due("flaw is still the first", x.flaw(), 0);
    }

    @Says(promise = 0, words = "SHEETS 0 .. 3 are LOST (at first)")
    private static void sheetsAtFirst() {
        LuteTabs x = new LuteTabs();
        for (int s = 0; s < 4; s++) due("sheet " + s, x.lose(s), NULL);
        due("no sheet 4", x.lose(4), BAD);
        due("no sheet -1", x.lose(-1), BAD);
    }

    @Says(promise = 0, words = "a row of a FORM: 0 bytes, 1 ints, 2 longs, of 0 to 48 items (0 at first)")
    private static void rows() {
        LuteTabs x = new LuteTabs();
        for (int form = 0; form < 3; form++) {
            due("49", x.sheet(form, form, 49), BAD);
            due("48", x.sheet(form, form, 48), 48);
            for (int i = 0; i < 48; i++) due("0 at first", x.get(form, i), 0);
            due("no item 48", x.get(form, 48), Long.MIN_VALUE + 12);
            due("0", x.sheet(form, form, 0), 0);
            due("no item 0", x.get(form, 0), Long.MIN_VALUE + 12);
        }
        due("form 3", x.sheet(3, 3, 1), BAD);
        due("form -1", x.sheet(3, -1, 1), BAD);
    }

    @Says(promise = 0, words = "SLOTS 0 .. 3 are EMPTY (at first) or keep a LAYING")
    private static void slotsAtFirst() {
        LuteTabs x = new LuteTabs();
        for (int s = 0; s < 4; s++) due("slot " + s, x.go(s), NULL);
        due("slots", x.count(6), 0);
        x.mend();
        for (int s = 0; s < 4; s++) due("keep", x.keep(s), s + 1);
        due("no slot 4", x.keep(4), BAD);
        due("no slot -1", x.keep(-1), BAD);
    }

    @Says(promise = 0, words = "FINDINGS (answers -10 less the number; they change nothing but count() 8)")
    private static void findings() {
        LuteTabs x = new LuteTabs();
        due("before any", x.count(8), 0);
        x.sheet(0, 0, 1);
        x.sheet(1, 1, 1);
        Act[] acts = {y -> y.go(0), y -> y.put(0, 0, 1, 1), y -> y.put(0, 1, 0, 1), y -> y.copy(0, 0, 1, 0, 1),
            y -> y.sheet(2, 0, -1)};
        for (int i = 0; i < acts.length; i++) {
            due("finding " + (i + 1), acts[i].on(x), -11 - i);
            due("its number", x.count(8), i + 1);
        }
        due("NULL of a sheet", x.lose(2), -11);
        due("its number", x.count(8), 1);
    }

    @Says(promise = 0, words = "Where the answer is a long, a refusal -x is the least long and x more.")
    private static void longRefusals() {
        LuteTabs x = new LuteTabs();
        due("BAD", x.get(4, 0), -9223372036854775806L);
        due("NULL", x.get(0, 0), -9223372036854775797L);
        x.sheet(0, 2, 1);
        due("INDEX", x.get(0, 1), -9223372036854775796L);
    }

    public static void main(String[] args) throws Exception {
        Sentences.run(TermsTest.class, due, 0, 0);
    }
}
