/** What the document promises, promise by promise: ordinary calls, the edges that it names, wrong calls. */
public final class PromiseTest extends Lutes {
    // ---- 1: a new object

    private static void newObject() {
        LuteTabs x = new LuteTabs();
        int[] counts = {0, 0, 5, 1, 0, NONE, 0, 0, 0};
        for (int what = 0; what < counts.length; what++) due("1 count " + what, x.count(what), counts[what]);
        int[] open = {20, 15, 11, 6, 0};
        for (int c = 0; c < 5; c++) due("1 open " + c, x.course(c, 0), open[c]);
        for (int s = 0; s < 4; s++) {
            due("1 sheet " + s, x.lose(s), NULL);
            due("1 slot " + s, x.go(s), NULL);
        }
        due("1 nothing laid", x.cost(), NOT);
        due("1 text", x.wipe(), 0);
        int[] first = {7, 3, 2, 1, 1};
        for (int what = 0; what < 5; what++) due("1 setting " + what, x.set(what, 1), first[what]);
        due("1 constants", LuteTabs.NONE * 1000 + LuteTabs.BAD * 100 + LuteTabs.NOT * 10 + LuteTabs.FULL, -1234);
    }

    // ---- 2 to 4: courses, tune, set

    private static void courses() {
        LuteTabs x = new LuteTabs();
        for (int c : new int[] {1, 6, 0, -1, MIN, MAX}) due("2 courses " + c, x.courses(c), BAD);
        due("2 courses", x.courses(2), 5);
        due("2 courses", x.courses(3), 2);
        due("2 count", x.count(2), 3);
        due("2 no course 3", x.course(3, 0), BAD);
        due("2 courses", x.courses(5), 3);
        due("2 open stays", x.course(4, 0), 0);
        due("2 open stays", x.course(3, 0), 6);
        losesLaying("2 courses", l -> l.courses(5), 5);
        keepsLaying("2 courses", l -> l.courses(6));
    }

    private static void tune() {
        LuteTabs x = new LuteTabs();
        due("3 tune", x.tune(0, 60), 20);
        due("3 tune", x.tune(0, 0), 60);
        due("3 tune", x.tune(4, 1), 0);
        for (int p : new int[] {-1, 61, MIN, MAX}) due("3 tune to " + p, x.tune(1, p), BAD);
        for (int c : new int[] {-1, 5, MIN, MAX}) due("3 tune of " + c, x.tune(c, 1), BAD);
        due("3 stays", x.course(1, 0), 15);
        x.courses(2);
        due("3 tune of no course", x.tune(2, 5), BAD);
        due("3 tune", x.tune(1, 5), 15);
        losesLaying("3 tune", l -> l.tune(0, 20), 20);
        keepsLaying("3 tune", l -> l.tune(0, 61));
    }

    private static void set() {
        int[] from = {1, 0, 0, 0, 0};
        int[] to = {9, 6, 9, 9, 9};
        int[] first = {7, 3, 2, 1, 1};
        LuteTabs x = new LuteTabs();
        for (int what = 0; what < 5; what++) {
            due("4 set below", x.set(what, from[what] - 1), BAD);
            due("4 set above", x.set(what, to[what] + 1), BAD);
            due("4 set", x.set(what, from[what]), first[what]);
            due("4 set", x.set(what, to[what]), from[what]);
            due("4 set", x.set(what, MIN), BAD);
            due("4 set", x.set(what, MAX), BAD);
            due("4 set", x.set(what, first[what]), to[what]);
        }
        for (int what : new int[] {-1, 5, MIN, MAX}) due("4 set of " + what, x.set(what, 1), BAD);
        losesLaying("4 set of frets", l -> l.set(0, 7), 7);
        keepsLaying("4 set of span", l -> l.set(1, 3));
        keepsLaying("4 set of shift", l -> l.set(2, 2));
        keepsLaying("4 set of press", l -> l.set(3, 1));
        keepsLaying("4 set of barre", l -> l.set(4, 1));
        keepsLaying("4 set of frets refused", l -> l.set(0, 10));
    }

    private interface Act {
        int on(LuteTabs x);
    }

    private static LuteTabs laidAndKept() {
        LuteTabs x = withNotes(0, 21, 4, 2, 17, 1);
        x.mend();
        x.keep(1);
        x.keep(3);
        return x;
    }

    private static void losesLaying(String name, Act act, int answer) {
        LuteTabs x = laidAndKept();
        due(name + " answers", act.on(x), answer);
        due(name + " leaves nothing laid", x.count(4), 0);
        due(name + " leaves slots empty", x.count(6), 0);
        due(name + " leaves nothing in a slot", x.go(3), NULL);
    }

    private static void keepsLaying(String name, Act act) {
        LuteTabs x = laidAndKept();
        act.on(x);
        due(name + " leaves it laid", x.count(4), 1);
        due(name + " leaves slots", x.count(6), 2);
        due(name + " leaves notes", x.count(0), 2);
    }

    // ---- 5 to 8: note, gone, clear, read

    private static void note() {
        LuteTabs x = new LuteTabs();
        int[][] bad = {{-1, 0, 1}, {200, 0, 1}, {0, -1, 1}, {0, 71, 1}, {0, 0, 0}, {0, 0, 41},
            {MIN, 0, 1}, {0, MAX, 1}, {0, 0, MIN}};
        for (int[] n : bad) due("5 note " + n[0] + " " + n[1] + " " + n[2], x.note(n[0], n[1], n[2]), BAD);
        due("5 none", x.count(0), 0);
        due("5 note", x.note(199, 70, 40), 0);
        due("5 note", x.note(0, 0, 1), 0);
        due("5 note by pitch", x.note(199, 3, 1), 1);
        due("5 like notes as told", x.note(199, 3, 2), 2);
        due("5 order", x.info(1, 2), 1);
        due("5 order", x.info(2, 2), 2);
        due("5 three then", x.note(199, 5, 1), FULL);
        due("5 bad ahead of full", x.note(199, 71, 1), BAD);
        for (int i = 0; i < 10; i++) due("5 note", x.note(10 + i, 5, 1), 1 + i);
        due("5 fourteen", x.count(0), 14);
        due("5 full", x.note(50, 5, 1), FULL);
        due("5 bad ahead of full", x.note(200, 5, 1), BAD);
        x.gone(0);
        due("5 room again", x.note(50, 5, 1), 10);
        losesLaying("5 note", l -> l.note(1, 1, 1), 1);
        keepsLaying("5 note", l -> l.note(200, 1, 1));
    }

    private static void gone() {
        LuteTabs x = withNotes(0, 1, 1, 3, 2, 1, 3, 4, 2, 7, 5, 3);
        for (int n : new int[] {-1, 4, MIN, MAX}) due("6 gone " + n, x.gone(n), BAD);
        due("6 gone", x.gone(1), 3);
        due("6 rest", x.info(1, 1), 4);
        due("6 rest", x.info(1, 2), 2);
        due("6 rest", x.info(2, 0), 7);
        due("6 chords", x.count(1), 3);
        due("6 gone", x.gone(1), 2);
        due("6 chords", x.count(1), 2);
        due("6 gone", x.gone(1), 1);
        due("6 gone", x.gone(0), 0);
        due("6 gone", x.gone(0), BAD);
        losesLaying("6 gone", l -> l.gone(1), 1);
        keepsLaying("6 gone", l -> l.gone(2));
    }

    private static void clear() {
        LuteTabs x = withNotes(0, 1, 1, 3, 2, 1);
        due("7 clear", x.clear(), 2);
        due("7 clear", x.clear(), 0);
        due("7 none", x.count(0), 0);
        due("7 none", x.count(1), 0);
        losesLaying("7 clear", l -> l.clear(), 2);
    }

    /** The int by which an odd number makes 1, as ints wrap. */
    private static int inverse32(int odd) {
        int inverse = odd;
        for (int i = 0; i < 5; i++) inverse *= 2 - odd * inverse;
        return inverse;
    }

    private static void read() {
        LuteTabs x = new LuteTabs();
        for (int s : new int[] {-1, 4, MIN, MAX}) due("8 read " + s, x.read(s), BAD);
        due("8 read lost", x.read(2), NULL);
        due("8 finding", x.count(8), 1);
        fill(x, 2, 1, 5, 20, 3, 1, 16, 6, 199, 70, 40, 9, 9);
        due("8 read whole ones", x.read(2), 3);
        due("8 sorted", x.info(0, 0), 1);
        due("8 sorted", x.info(2, 1), 70);
        fill(x, 2, 1, 7, 1, 1, 8, 71, 1, 9, 1, 1);
        due("8 read as long as each may be", x.read(2), 1);
        due("8 then", x.count(0), 4);
        fill(x, 2, 1, 7, 1, 1, 7, 2, 1, 7, 3, 1, 8, 1, 1);
        due("8 read as long as there is room then", x.read(2), 2);
        due("8 then", x.count(0), 6);
        fill(x, 2, 0, 20, 1, 1, 21, 1, 1, 22, 1, 1, 23, 1, 1, 24, 1, 1, 25, 1, 1, 26, 1, 1, 27, 1, 1, 28, 1, 1);
        due("8 read as long as there is room", x.read(2), 8);
        due("8 then", x.count(0), 14);
        due("8 no room", x.read(2), 0);
        x.clear();
        x.sheet(0, 2, 6);
        due("8 last 0", x.read(0), 0);
        x.put(0, 2, 2, 1);
        due("8 a long too great", x.read(0), 0);
        // The lowest 32 bits of this long are 1: it is the whole long that counts.
        x.put(0, 2, 2, inverse32(100000007));
        due("8 a long whose lowest bits are 1", (int) x.get(0, 2), 1);
        due("8 a long too great", x.read(0), 0);
        x.sheet(1, 1, 0);
        due("8 an empty sheet", x.read(1), 0);
        fill(x, 1, 0, 5, 6, 7);
        due("8 exactly one", x.read(1), 1);
        due("8 its last", x.info(0, 2), 7);
        losesLaying("8 read", l -> {
            l.sheet(0, 0, 2);
            return l.read(0);
        }, 0);
        keepsLaying("8 read", l -> l.read(0));
        keepsLaying("8 read", l -> l.read(4));
    }

    // ---- 9, 10: info, course

    private static void info() {
        LuteTabs x = withNotes(3, 20, 5, 3, 13, 4, 9, 27, 1);
        int[][] all = {{3, 13, 4, 0, 2, NONE}, {3, 20, 5, 0, 2, NONE}, {9, 27, 1, 1, 1, NONE}};
        for (int n = 0; n < 3; n++) {
            for (int what = 0; what < 6; what++) due("9 info " + n + " " + what, x.info(n, what), all[n][what]);
        }
        x.mend();
        due("9 laid on", x.info(0, 5), 3);
        due("9 laid on", x.info(1, 5), 0);
        for (int n : new int[] {-1, 3, MIN, MAX}) due("9 info of " + n, x.info(n, 0), BAD);
        for (int what : new int[] {-1, 6, MIN, MAX}) due("9 info " + what, x.info(0, what), BAD);
        x.set(0, 6);
        due("9 fret 7 of 6", x.info(2, 4), 0);
        x.courses(2);
        due("9 courses that are there", x.info(0, 4), 0);
    }

    private static void course() {
        LuteTabs x = withNotes(0, 20, 1, 1, 22, 1, 2, 27, 1, 3, 28, 1, 4, 0, 1);
        int[][] all = {{20, 3, 0}, {15, 2, 0}, {11, 0, 0}, {6, 0, 0}, {0, 1, 0}};
        for (int c = 0; c < 5; c++) {
            for (int what = 0; what < 3; what++) due("10 course " + c + " " + what, x.course(c, what), all[c][what]);
        }
        x.lay(1, 3);
        due("10 laid on 0", x.course(0, 2), 4);
        due("10 laid on 3", x.course(3, 2), 1);
        due("10 laid on 1", x.course(1, 2), 0);
        for (int c : new int[] {-1, 5, MIN, MAX}) due("10 course " + c, x.course(c, 0), BAD);
        for (int what : new int[] {-1, 3, MIN, MAX}) due("10 course 0 " + what, x.course(0, what), BAD);
    }

    // ---- 11 to 13: least, fault, mend

    private static void least() {
        LuteTabs x = new LuteTabs();
        due("11 of no notes", x.least(), 0);
        x.note(0, 20, 1);
        due("11 open", x.least(), 0);
        x.note(1, 28, 1);
        due("11 none", x.least(), NOT);
        x.set(0, 8);
        due("11 fret 8", x.least(), 1);
        x.set(3, 9);
        due("11 press", x.least(), 9);

        // 23 to 27 lie on course 0 alone.
        LuteTabs shifts = withNotes(0, 23, 1, 1, 27, 1);
        due("11 shift of 4", shifts.least(), 2 + 2 * 4);
        shifts.set(2, 0);
        due("11 no shift", shifts.least(), 2);

        // The chord between has nothing above fret 0: no shift is charged on either side of it.
        LuteTabs open = withNotes(0, 23, 1, 1, 20, 1, 2, 27, 1);
        due("11 no shift past open ones", open.least(), 2);

        // Sustained notes count for LOW, and hold their course.
        LuteTabs held = withNotes(0, 23, 2, 1, 27, 1);
        due("11 held finger is in the way", held.least(), NOT);
        LuteTabs letGo = withNotes(0, 23, 1, 1, 27, 1);
        due("11 let go ahead of it", letGo.least(), 10);
        LuteTabs heldLow = withNotes(0, 22, 2, 1, 24, 1);
        due("11 held finger keeps the hand", heldLow.least(), 2 + 2 * 3);
    }

    private static void spanAndFingers() {
        LuteTabs x = alike(4);
        addNotes(x, 0, 11, 1, 0, 14, 1);
        due("11 within the span", x.least(), 2);
        x.set(1, 2);
        due("11 beyond the span", x.least(), NOT);
        x.set(1, 3);
        x.note(0, 10, 1);
        due("11 fret 0 is not of the span", x.least(), 2);

        LuteTabs five = alike(5);
        addNotes(five, 0, 11, 9, 0, 12, 9, 0, 13, 9, 1, 14, 9);
        due("11 four fingers", five.least(), 4);
        five.note(1, 15, 9);
        five.set(1, 6);
        due("11 five fingers", five.least(), NOT);
        due("12 five fingers", five.fault(), 1);
        five.gone(4);
        five.note(1, 11, 9);
        due("11 a bar spares one", five.least(), 6);
        five.note(2, 10, 9);
        due("11 six on five courses", five.least(), NOT);
    }

    private static void fault() {
        LuteTabs x = new LuteTabs();
        due("12 of no notes", x.fault(), NONE);
        addNotes(x, 0, 20, 1, 3, 22, 5, 3, 24, 5, 5, 23, 9);
        // 22, 24 and 23 lie on courses 0 and 1 alone.
        due("12 third of two courses", x.fault(), 2);
        due("12 least", x.least(), NOT);
        due("12 mend", x.mend(), NOT);
        x.note(1, 60, 1);
        due("12 the first of two", x.fault(), 1);
        x.gone(1);
        x.gone(3);
        due("12 none", x.fault(), NONE);
        x.note(90, 1, 3);
        x.note(91, 2, 3);
        x.note(92, 3, 3);
        due("12 by sustained notes", x.fault(), 3);
    }

    private static void mend() {
        LuteTabs x = new LuteTabs();
        due("13 of no notes", x.mend(), 0);
        due("13 laid", x.count(4), 1);
        due("13 no wrong", x.wrong(), 0);
        due("13 keep", x.keep(0), 1);
        due("13 go", x.go(0), 0);

        LuteTabs like = alike(3);
        addNotes(like, 0, 12, 1, 0, 12, 1, 4, 13, 1);
        due("13 mend", like.mend(), 3 + 1 + 2);
        due("13 first of like ones", like.info(0, 5) * 100 + like.info(1, 5) * 10 + like.info(2, 5), 10);
        like.set(4, 9);
        due("13 mend", like.mend(), 14);

        // A bar over courses 0 and 1 costs 9; with the open one between them it is none.
        LuteTabs between = alike(3);
        addNotes(between, 0, 12, 1, 0, 12, 1, 0, 10, 1);
        between.set(4, 9);
        due("13 no bar over an open one", between.mend(), 2);
        due("13 open one between", between.info(0, 5) * 100 + between.info(1, 5) * 10 + between.info(2, 5), 102);
        between.set(4, 0);
        due("13 like cost: first", between.mend(), 2);
        due("13 open one first", between.info(0, 5) * 100 + between.info(1, 5) * 10 + between.info(2, 5), 12);

        LuteTabs stays = withNotes(0, 21, 1);
        stays.lay(0, 3);
        stays.set(0, 7);
        stays.lay(0, 3);
        stays.note(0, 70, 1);
        stays.lay(1, 2);
        due("13 none", stays.mend(), NOT);
        due("13 a refusal changes nothing", stays.info(1, 5), 2);
        due("13 a refusal changes nothing", stays.info(0, 5), 0);
    }

    /** The first notes' courses are the lesser, though the later notes' are the greater then. */
    private static void firstOfLikeOnes() {
        LuteTabs x = alike(2);
        addNotes(x, 0, 10, 5, 1, 10, 5);
        due("13 mend", x.mend(), 0);
        due("13 note 0 first", x.info(0, 5), 0);
        due("13 note 1 then", x.info(1, 5), 1);
        // By chords: the cheaper end of the row decides ahead of the order.
        LuteTabs y = new LuteTabs();
        y.courses(2);
        y.tune(0, 10);
        y.tune(1, 14);
        addNotes(y, 0, 15, 1, 1, 20, 1);
        due("13 least move", y.mend(), 2 + 2 * 1);
        due("13 fret 5 ahead of fret 6", y.info(0, 5), 0);
        due("13 fret 6", y.info(1, 5), 1);
    }

    /** Of the 120 ways to lay five notes only the last in order keeps all at one fret. */
    private static void lastOfAllWays() {
        LuteTabs x = new LuteTabs();
        for (int c = 0; c < 5; c++) x.tune(c, 14 - c);
        x.set(0, 9);
        x.set(1, 0);
        addNotes(x, 0, 15, 9, 0, 16, 9, 0, 17, 9, 1, 18, 9, 1, 19, 9);
        due("13 the last way", x.mend(), 4 + 3);
        for (int n = 0; n < 5; n++) due("13 course of " + n, x.info(n, 5), 4 - n);
        due("13 all in one bar", x.chord(1, 4), 1);
    }

    private static void greatestCost() {
        LuteTabs x = new LuteTabs();
        x.set(0, 9);
        x.set(2, 9);
        x.set(3, 9);
        for (int n = 0; n < 14; n++) x.note(n, n % 2 == 0 ? 1 : 29, 1);
        due("13 the greatest cost", x.mend(), 13 * 9 * 8 + 14 * 9);
        for (int n = 0; n < 14; n++) due("13 course of " + n, x.info(n, 5), n % 2 == 0 ? 4 : 0);
        due("16 the greatest cost", x.cost(), 13 * 9 * 8 + 14 * 9);
        x.keep(2);
        for (int n = 0; n < 14; n++) x.lay(n, 2);
        due("23 all differ", x.differ(2), 14);
        due("22 all back", x.go(2), 13 * 9 * 8 + 14 * 9);
    }

    // ---- 14 to 17: lay, wrong, cost, chord

    private static void lay() {
        LuteTabs x = withNotes(0, 21, 1, 1, 22, 1, 2, 23, 1);
        due("14 nothing was", x.lay(1, 4), NONE);
        due("14 others on 0", x.info(0, 5), 0);
        due("14 laid", x.info(1, 5), 4);
        due("14 was", x.lay(1, 2), 4);
        due("14 was", x.lay(0, 1), 0);
        for (int n : new int[] {-1, 3, MIN, MAX}) due("14 lay " + n, x.lay(n, 0), BAD);
        for (int c : new int[] {-1, 5, MIN, MAX}) due("14 lay on " + c, x.lay(0, c), BAD);
        due("14 refused", x.info(0, 5), 1);
        x.courses(3);
        due("14 refused lays nothing", x.lay(0, 3), BAD);
        due("14 refused lays nothing", x.count(4), 0);
        due("14 others on 0 again", x.lay(2, 1), NONE);
        due("14 others on 0 again", x.info(0, 5), 0);
        due("14 others on 0 again", x.info(1, 5), 0);
    }

    private static void wrong() {
        LuteTabs x = withNotes(0, 21, 4, 0, 13, 4, 2, 17, 1);
        due("15 nothing laid", x.wrong(), NOT);
        x.mend();
        due("15 good", x.wrong(), 0);
        x.lay(2, 2);
        due("15 one course, span", x.wrong(), 2);
        x.lay(2, 0);
        // Fret -3 is not 0 to F, and one course holds two; -3 counts as 0.
        due("15 fret below 0, one course", x.wrong(), 2);
        x.lay(2, 4);
        due("15 fret 17, span", x.wrong(), 2);
        x.set(1, 6);
        x.lay(2, 3);
        due("15 fret 11, span", x.wrong(), 2);
        due("15 count", x.count(5), 2);

        LuteTabs five = alike(5);
        addNotes(five, 0, 11, 9, 0, 12, 9, 0, 13, 9, 1, 14, 9, 1, 13, 9, 2, 10, 1);
        layAll(five, 0, 1, 2, 3, 4, 0);
        // Fingers at chords 1 and 2, one course at chord 2.
        due("15 fingers", five.wrong(), 3);
        five.set(1, 1);
        due("15 span at all chords", five.wrong(), 6);
    }

    private static void cost() {
        LuteTabs x = withNotes(0, 21, 4, 1, 13, 1, 5, 27, 1);
        due("16 nothing laid", x.cost(), NOT);
        x.mend();
        due("16 as mended", x.cost(), x.least());
        layAll(x, 0, 2, 0);
        due("16 cost", x.cost(), 3 + 2 * 6);
        x.set(2, 9);
        due("16 by new settings", x.cost(), 3 + 9 * 6);
        x.set(3, 0);
        due("16 by new settings", x.cost(), 9 * 6);
        x.lay(1, 0);
        due("16 fret below 0 counts as 0", x.cost(), 9 * 6);
        x.lay(2, 4);
        due("16 fret 27", x.cost(), 9 * 26);
    }

    private static void chord() {
        LuteTabs x = withNotes(0, 21, 4, 0, 13, 4, 2, 17, 1, 4, 22, 2, 4, 13, 2);
        int[][] all = {{0, 2, 2, 1, 2, 0, 2}, {2, 1, 3, 1, 3, 0, 1}, {4, 2, 2, 2, 1, 1, 5}};
        for (int k = 0; k < 3; k++) {
            for (int what = 0; what < 7; what++) {
                due("17 chord " + k + " " + what, x.chord(k, what), what < 3 ? all[k][what] : NOT);
            }
        }
        x.mend();
        for (int k = 0; k < 3; k++) {
            for (int what = 0; what < 7; what++) due("17 chord " + k + " " + what, x.chord(k, what), all[k][what]);
        }
        for (int k : new int[] {-1, 3, MIN, MAX}) due("17 chord " + k, x.chord(k, 0), BAD);
        for (int what : new int[] {-1, 7, MIN, MAX}) due("17 chord 0 " + what, x.chord(0, what), BAD);
        x.courses(5);
        due("17 bad ahead of not", x.chord(0, 7), BAD);
        due("17 bad ahead of not", x.chord(3, 3), BAD);
    }

    /** LOW, BAR and FINGERS of what is not good. */
    private static void chordOfWrong() {
        LuteTabs x = alike(5);
        addNotes(x, 0, 12, 1, 0, 12, 1, 0, 12, 1);
        layAll(x, 2, 2, 2);
        due("17 bar on one course", x.chord(0, 5), 1);
        due("17 fingers of it", x.chord(0, 4), 1);
        due("17 wrong", x.wrong(), 1);

        LuteTabs below = alike(5);
        addNotes(below, 0, 5, 1, 0, 12, 1, 0, 12, 1);
        layAll(below, 1, 0, 2);
        due("17 fret -5 counts as 0: between", below.chord(0, 5), 0);
        due("17 fingers", below.chord(0, 4), 2);
        layAll(below, 3, 0, 2);
        due("17 not between", below.chord(0, 5), 1);
        layAll(below, 2, 0, 2);
        due("17 at the end is not between", below.chord(0, 5), 1);
        layAll(below, 0, 2, 0);
        due("17 at the beginning is not between", below.chord(0, 5), 1);

        LuteTabs open = alike(3);
        addNotes(open, 0, 10, 1, 0, 10, 1);
        layAll(open, 0, 1);
        due("17 no bar at fret 0", open.chord(0, 5), 0);
        due("17 low", open.chord(0, 3), 0);
        due("17 fingers", open.chord(0, 4), 0);
    }

    /** A bar at each two courses, and a note at fret 0 on each of the others. */
    private static void bars() {
        LuteTabs x = alike(5);
        addNotes(x, 0, 10, 1, 0, 12, 1, 0, 12, 1, 5, 10, 1, 5, 12, 1, 5, 13, 1);
        layAll(x, 2, 0, 4, 1, 0, 2);
        due("17 no bar", x.chord(1, 5), 0);
        for (int a = 0; a < 5; a++) {
            for (int b = 0; b < 5; b++) {
                for (int open = 0; open < 5; open++) {
                    if (a == b || a == open || b == open) continue;
                    layAll(x, open, a, b);
                    boolean between = open > Math.min(a, b) && open < Math.max(a, b);
                    due("17 bar " + a + " " + b + " " + open, x.chord(0, 5), between ? 0 : 1);
                    due("17 fingers", x.chord(0, 4), between ? 2 : 1);
                    due("17 cost", x.chord(0, 6), between ? 2 : 3);
                }
            }
        }
    }

    private static void sounding() {
        LuteTabs x = withNotes(0, 21, 3, 2, 16, 1, 3, 12, 1, 4, 7, 2, 5, 7, 1, 6, 1, 1);
        int[] all = {1, 2, 1, 1, 2, 1};
        for (int k = 0; k < all.length; k++) due("17 sounding at " + k, x.chord(k, 2), all[k]);
        due("17 begin", x.chord(1, 1), 1);
        // LAST reaches past chords that come between.
        LuteTabs y = withNotes(0, 21, 40, 1, 16, 1, 20, 16, 1, 39, 16, 1, 40, 16, 1);
        int[] more = {1, 2, 2, 2, 1};
        for (int k = 0; k < more.length; k++) due("17 sounding at " + k, y.chord(k, 2), more[k]);
    }

    // ---- 18 to 20: without, key, easiest

    private static void without() {
        LuteTabs x = withNotes(0, 20, 1, 1, 22, 1);
        due("18 least", x.least(), 1);
        due("18 without 0", x.without(0), 1 + 1 + 2 * 2);
        due("18 without 1", x.without(1), 1);
        x.note(1, 24, 1);
        due("18 none without 1", x.without(1), NONE);
        for (int c : new int[] {-1, 5, MIN, MAX}) due("18 without " + c, x.without(c), BAD);
        x.courses(2);
        due("18 no such course", x.without(2), BAD);
        due("18 of no notes", new LuteTabs().without(4), 0);
        due("18 lays nothing", x.count(4), 0);
    }

    private static void key() {
        LuteTabs x = withNotes(0, 20, 1, 1, 22, 1);
        due("19 key 0", x.key(0), x.least());
        due("19 key 1", x.key(1), 2 + 2 * 2);
        due("19 key 5", x.key(5), 2 + 2 * 2);
        due("19 key 6", x.key(6), NONE);
        due("19 key -2", x.key(-2), 1);
        due("19 key -12", x.key(-12), 2 + 2 * 2);
        due("19 key 12", x.key(12), NONE);
        for (int k : new int[] {-13, 13, MIN, MAX}) due("19 key " + k, x.key(k), BAD);
        due("19 of no notes", new LuteTabs().key(12), 0);
        x.clear();
        x.note(0, 70, 1);
        x.tune(0, 60);
        due("19 above what a note may be", x.key(12), NONE);
        due("19 key -10", x.key(-10), 0);
        due("19 notes stay", x.info(0, 1), 70);
    }

    private static void easiest() {
        LuteTabs x = withNotes(0, 21, 1);
        due("20 the one below", x.easiest(0), -1);
        due("20 its cost", x.easiest(1), 0);
        x.tune(0, 22);
        due("20 above is like near, below there is none", x.easiest(0), 1);
        x.tune(1, 20);
        due("20 of two as near the one below", x.easiest(0), -1);
        x.note(5, 21, 1);
        x.set(3, 0);
        due("20 nearest to 0", x.easiest(0), 0);
        for (int what : new int[] {-1, 2, MIN, MAX}) due("20 easiest " + what, x.easiest(what), MIN);
        due("20 of no notes", new LuteTabs().easiest(0), 0);
        due("20 of no notes", new LuteTabs().easiest(1), 0);
        LuteTabs high = withNotes(0, 70, 1);
        due("20 by none", high.easiest(0), MIN);
        due("20 by none", high.easiest(1), MIN);
        LuteTabs far = withNotes(0, 39, 1);
        due("20 the farthest", far.easiest(0), -12);
        due("20 its cost", far.easiest(1), 1);
        LuteTabs up = withNotes(0, 8, 1);
        up.courses(2);
        due("20 up", up.easiest(0), 7);
        up.tune(1, 20);
        due("20 the farthest up", up.easiest(0), 12);
    }

    // ---- 21 to 23: keep, go, differ

    private static void slots() {
        LuteTabs x = withNotes(0, 21, 1, 1, 22, 1);
        for (int s : new int[] {-1, 4, MIN, MAX}) {
            due("21 keep " + s, x.keep(s), BAD);
            due("22 go " + s, x.go(s), BAD);
            due("23 differ " + s, x.differ(s), BAD);
        }
        due("21 nothing laid", x.keep(0), NOT);
        due("22 empty", x.go(0), NULL);
        due("22 finding", x.count(8), 1);
        due("23 empty", x.differ(0), NULL);
        x.mend();
        due("21 keep", x.keep(0), 1);
        x.lay(0, 1);
        x.lay(1, 1);
        due("21 keep", x.keep(3), 2);
        due("21 keep again", x.keep(3), 2);
        due("23 differ", x.differ(0), 2);
        due("23 differ", x.differ(3), 0);
        due("23 differ of empty", x.differ(1), NULL);
        due("22 go", x.go(0), 2 + 2);
        due("22 laid", x.info(0, 5), 0);
        x.lay(0, 4);
        due("22 the slot is not what is laid", x.differ(0), 1);
        due("22 go", x.go(3), 2 + 2);
        due("22 by today's settings", x.set(3, 9), 1);
        due("22 by today's settings", x.go(3), 18 + 2);
        due("21 over what was kept", x.keep(0), 2);
        due("23 differ", x.differ(0), 0);
    }

    // ---- 24: text

    private static void text() {
        LuteTabs x = withNotes(0, 21, 4, 0, 13, 4, 2, 17, 1, 4, 22, 2, 4, 13, 2);
        due("24 nothing laid", x.text(NONE), NOT);
        due("24 bad ahead of not", x.text(-2), BAD);
        due("24 not ahead of no such byte", x.text(1000), NOT);
        x.mend();
        due.holds("24 tablature", tablature(x).equals("0:b-c--;2:-c---;4:c-c--;"));
        due("24 bytes", x.text(NONE), 24);
        due("24 the last", x.text(23), ';');
        for (int n : new int[] {24, MAX, -2, MIN}) due("24 text " + n, x.text(n), BAD);
        x.lay(2, 2);
        due("24 wrong", x.text(NONE), NOT);
        due("24 wrong", x.text(0), NOT);

        LuteTabs none = new LuteTabs();
        none.mend();
        due("24 of no notes", none.text(NONE), 0);
        due("24 of no notes", none.text(0), BAD);

        LuteTabs figures = new LuteTabs();
        figures.set(0, 9);
        addNotes(figures, 9, 0, 1, 10, 1, 1, 99, 2, 1, 100, 2, 1, 105, 9, 1, 199, 29, 1);
        figures.courses(5);
        layAll(figures, 4, 4, 4, 4, 4, 0);
        due.holds("24 figures", tablature(figures).equals("9:----a;10:----b;99:----c;100:----c;105:----j;199:j----;"));

        LuteTabs longest = new LuteTabs();
        for (int i = 0; i < 14; i++) longest.note(186 + i, 20, 1);
        longest.mend();
        due("24 the longest", longest.text(NONE), 140);
        due("24 its end", longest.text(139), ';');
        due("24 its end", longest.text(134), 'a');
    }

    // ---- 25 to 28: type, wipe, flaw, back

    private static void type() {
        LuteTabs x = new LuteTabs();
        for (int b : new int[] {-1, 256, MIN, MAX}) due("25 type " + b, x.type(b), BAD);
        for (int i = 1; i <= 80; i++) due("25 type", x.type(i == 1 ? 0 : 255), i);
        due("25 full", x.type(5), FULL);
        due("25 bad ahead of full", x.type(256), BAD);
        due("25 count", x.count(7), 80);
        due("26 wipe", x.wipe(), 80);
        due("26 wipe", x.wipe(), 0);
        due("26 count", x.count(7), 0);
        due("25 type", x.type(48), 1);
    }

    private static void flawOf(LuteTabs x, String text, int want) {
        typeAll(x, text);
        due("27 flaw of " + text, x.flaw(), want);
    }

    private static void flaw() {
        LuteTabs x = new LuteTabs();
        x.courses(4);
        due("27 empty", x.flaw(), 0);
        String[] right = {"0:a---;", "199:---h;", "0:abc-;1:-abc;199:a---;", "10:a---;100:a---;", "9:a---;10:a---;"};
        for (String text : right) flawOf(x, text, NONE);
        flawOf(x, "0:a---", 6);
        flawOf(x, "0:a---;1", 8);
        flawOf(x, ":a---;", 0);
        flawOf(x, "00:a---;", 1);
        flawOf(x, "01:a---;", 1);
        flawOf(x, "200:a---;", 2);
        flawOf(x, "2", 1);
        flawOf(x, "20:a---;", NONE);
        flawOf(x, "1990", 3);
        flawOf(x, "0:a--;", 5);
        flawOf(x, "0:a----;", 6);
        flawOf(x, "0:----;", 5);
        flawOf(x, "0:---", 5);
        flawOf(x, "0:aaaa;", 5);
        flawOf(x, "0:i---;", 2);
        flawOf(x, "0:A---;", 2);
        flawOf(x, "0;a---;", 1);
        flawOf(x, "0:a---:", 6);
        flawOf(x, "0:a---; ", 7);
        flawOf(x, "-1:a---;", 0);
        flawOf(x, "0:a---;0:a---;", 7);
        flawOf(x, "5:a---;5:a---;", 8);
        flawOf(x, "5:a---;4:a---;", 8);
        flawOf(x, "5:a---;49:a---;", NONE);
        flawBehindAnother();
        x = new LuteTabs();
        x.set(0, 8);
        x.courses(4);
        flawOf(x, "0:i---;", NONE);
        x.courses(2);
        flawOf(x, "0:i---;", 4);
        flawOf(x, "0:ai;", NONE);
        typeAll(x, "0:a-;1");
        x.type(255);
        due("27 byte 255", x.flaw(), 6);
    }

    /** Apart from the others: an object is called 512 times at most. */
    private static void flawBehindAnother() {
        LuteTabs x = new LuteTabs();
        x.courses(4);
        flawOf(x, "50:a---;3", 8);
        flawOf(x, "50:a---;5", 9);
        flawOf(x, "50:a---;50", 9);
        flawOf(x, "50:a---;5:", 9);
        flawOf(x, "50:a---;49", 8);
        flawOf(x, "50:a---;1", 9);
        flawOf(x, "50:a---;12", 10);
        flawOf(x, "50:a---;12:", 10);
        flawOf(x, "150:a---;14", 10);
        flawOf(x, "150:a---;15", 11);
        flawOf(x, "150:a---;150", 11);
        flawOf(x, "159:a---;15", 10);
        flawOf(x, "99:a---;9", 8);
        flawOf(x, "99:a---;10", 10);
        flawOf(x, "58:a---;5", 9);
        flawOf(x, "59:a---;5", 8);
        flawOf(x, "198:a---;1", 10);
        flawOf(x, "198:a---;19", 11);
        flawOf(x, "198:a---;198", 11);
        flawOf(x, "198:a---;199", 12);
        flawOf(x, "199:a---;1", 9);
        flawOf(x, "199:a---;2", 9);
    }

    private static void back() {
        LuteTabs x = laidAndKept();
        due("28 of the empty one", x.back(), NOT);
        due("28 refused changes nothing", x.count(6), 2);
        typeAll(x, "7:c-a-b;12:--d--;");
        due("28 back", x.back(), 4);
        due("28 slots", x.count(6), 0);
        due("28 the text stays", x.count(7), 17);
        int[][] all = {{7, 1, 1, 0, 1, 4}, {7, 11, 1, 0, 2, 2}, {7, 22, 1, 0, 2, 0}, {12, 14, 1, 1, 1, 2}};
        for (int n = 0; n < 4; n++) {
            for (int what = 0; what < 6; what++) due("28 note " + n + " " + what, x.info(n, what), all[n][what]);
        }
        due.holds("28 read back", tablature(x).equals("7:c-a-b;12:--d--;"));
        typeAll(x, "7:c-a-b;12:--d--");
        due("28 not right", x.back(), NOT);
        due("28 refused changes nothing", x.count(4), 1);
        typeAll(x, "0:aaa--;1:aaa--;2:aaa--;3:aaa--;4:aa---;");
        due("28 fourteen", x.back(), 14);
        typeAll(x, "0:aaa--;1:aaa--;2:aaa--;3:aaa--;4:aaa--;");
        due("28 fifteen", x.back(), FULL);
        due("28 refused changes nothing", x.count(0), 14);
        // Like pitches come in the order of their courses.
        LuteTabs like = alike(4);
        typeAll(like, "3:-ccb;");
        due("28 back", like.back(), 3);
        due("28 laid", like.info(0, 5) * 100 + like.info(1, 5) * 10 + like.info(2, 5), 312);
        // What is told by text may be wrong.
        like.set(1, 0);
        typeAll(like, "3:ab-j;");
        due("28 not right", like.back(), NOT);
        typeAll(like, "3:ab-h;");
        due("28 back", like.back(), 3);
        due("28 wrong", like.wrong(), 1);
        due("28 no tablature", like.text(NONE), NOT);
    }

    // ---- 29 to 34: sheets

    private static void sheet() {
        LuteTabs x = new LuteTabs();
        for (int s : new int[] {-1, 4, MIN, MAX}) due("29 sheet " + s, x.sheet(s, 0, 1), BAD);
        for (int f : new int[] {-1, 3, MIN, MAX}) due("29 form " + f, x.sheet(0, f, 1), BAD);
        due("29 above 48", x.sheet(0, 0, 49), BAD);
        due("29 above 48", x.sheet(0, 0, MAX), BAD);
        due("29 bad ahead of size", x.sheet(4, 0, -1), BAD);
        due("29 no finding yet", x.count(8), 0);
        due("29 size", x.sheet(0, 0, -1), SIZE);
        due("29 finding", x.count(8), 5);
        due("29 size", x.sheet(0, 0, MIN), SIZE);
        due("29 still lost", x.lose(0), NULL);
        due("29 sheet", x.sheet(0, 2, 48), 48);
        x.put(0, 2, 47, 1);
        due("29 refused changes nothing", x.sheet(0, 2, -1), SIZE);
        due("29 refused changes nothing", x.get(0, 47), 100000007L);
        due("29 anew", x.sheet(0, 2, 48), 48);
        due("29 items are 0", x.get(0, 47), 0);
        due("29 none", x.sheet(1, 1, 0), 0);
        due("30 lose", x.lose(0), 48);
        due("30 lost", x.lose(0), NULL);
        due("30 finding", x.count(8), 1);
        due("30 lose none", x.lose(1), 0);
        for (int s : new int[] {-1, 4, MIN, MAX}) due("30 lose " + s, x.lose(s), BAD);
    }

    private static void putAndGet() {
        LuteTabs x = new LuteTabs();
        long least = Long.MIN_VALUE;
        due("31 lost", x.put(0, 0, 0, 1), NULL);
        due("31 bad ahead of null", x.put(0, 3, 0, 1), BAD);
        due("32 lost", x.get(0, 0), least + 11);
        x.sheet(0, 0, 3);
        x.sheet(1, 1, 3);
        x.sheet(2, 2, 3);
        for (int s : new int[] {-1, 4, MIN, MAX}) {
            due("31 put " + s, x.put(s, 0, 0, 1), BAD);
            due("32 get " + s, x.get(s, 0), least + 2);
        }
        for (int f : new int[] {-1, 3, MIN, MAX}) due("31 form " + f, x.put(0, f, 0, 1), BAD);
        for (int i : new int[] {-1, 3, MIN, MAX}) {
            due("31 put at " + i, x.put(0, 0, i, 1), INDEX);
            due("32 get at " + i, x.get(0, i), least + 12);
        }
        due("31 cast ahead of index", x.put(0, 1, 9, 1), CAST);
        due("31 finding", x.count(8), 3);
        due("31 cast", x.put(1, 2, 0, 1), CAST);
        due("31 cast", x.put(2, 0, 0, 1), CAST);
        int[] values = {0, 127, 128, 255, 256, 300, -1, -129, MIN, MAX};
        int[] asBytes = {0, 127, -128, -1, 0, 44, -1, 127, 0, -1};
        for (int v = 0; v < values.length; v++) {
            for (int form = 0; form < 3; form++) due("31 put", x.put(form, form, 1, values[v]), 1);
            due("31 a byte of " + values[v], x.get(0, 1), asBytes[v]);
            due("31 an int", x.get(1, 1), values[v]);
            due("31 a long", x.get(2, 1), values[v] * 100000007L);
        }
        due("31 others stay", x.get(0, 0) + x.get(0, 2) + x.get(1, 0) + x.get(1, 2) + x.get(2, 0) + x.get(2, 2), 0);
    }

    private static void copy() {
        LuteTabs x = new LuteTabs();
        fill(x, 0, 1, 1, 2, 3, 4, 5);
        fill(x, 1, 1, 7, 8, 9);
        fill(x, 2, 0, 1, 2, 3);
        for (int s : new int[] {-1, 4, MIN, MAX}) {
            due("33 copy from " + s, x.copy(s, 0, 0, 0, 1), BAD);
            due("33 copy to " + s, x.copy(0, 0, s, 0, 1), BAD);
        }
        due("33 lost", x.copy(3, 0, 0, 0, 1), NULL);
        due("33 lost", x.copy(0, 0, 3, 0, -1), NULL);
        due("33 store ahead of index", x.copy(0, 0, 2, 0, -1), STORE);
        due("33 finding", x.count(8), 4);
        int[][] outside = {{-1, 0, 1}, {0, -1, 1}, {0, 0, -1}, {0, 0, 4}, {3, 0, 3}, {0, 1, 3}, {6, 0, 0}, {0, 4, 0},
            {MAX, 0, MAX}, {0, MAX, 1}, {MIN, 0, 0}, {0, MIN, MIN}, {MAX, MAX, 0}};
        for (int[] o : outside) due("33 copy", x.copy(0, o[0], 1, o[1], o[2]), INDEX);
        due("33 nothing at the ends", x.copy(0, 5, 1, 3, 0), 1);
        due("33 refused changes nothing", x.get(1, 0) * 100 + x.get(1, 1) * 10 + x.get(1, 2), 789);
        due("33 copy", x.copy(0, 3, 1, 1, 2), 1);
        due("33 copied", x.get(1, 0) * 100 + x.get(1, 1) * 10 + x.get(1, 2), 745);
        due("33 up within", x.copy(0, 0, 0, 1, 4), 1);
        due("33 as they were", x.get(0, 1) * 1000 + x.get(0, 2) * 100 + x.get(0, 3) * 10 + x.get(0, 4), 1234);
        due("33 down within", x.copy(0, 2, 0, 0, 3), 1);
        due("33 as they were", x.get(0, 0) * 1000 + x.get(0, 1) * 100 + x.get(0, 2) * 10 + x.get(0, 3), 2343);
    }

    private static void write() {
        LuteTabs x = withNotes(0, 3, 1, 1, 70, 1, 2, 21, 1);
        for (int s : new int[] {-1, 4, MIN, MAX}) due("34 write " + s, x.write(s), BAD);
        due("34 lost ahead of not", x.write(0), NULL);
        x.sheet(0, 0, 5);
        x.sheet(1, 1, 2);
        x.sheet(2, 2, 3);
        x.sheet(3, 2, 0);
        x.put(0, 0, 3, 9);
        due("34 nothing laid", x.write(0), NOT);
        layAll(x, 0, 4, 0);
        due("34 write", x.write(0), 3);
        due("34 fret -17", x.get(0, 0), -17);
        due("34 fret 70", x.get(0, 1), 70);
        due("34 fret 1", x.get(0, 2), 1);
        due("34 the rest stays", x.get(0, 3), 9);
        due("34 as many as items", x.write(1), 2);
        due("34 an int", x.get(1, 0), -17);
        due("34 longs", x.write(2), 3);
        due("34 as they are", x.get(2, 1), 70);
        due("34 no items", x.write(3), 0);
    }

    // ---- 35, 36: count, digest

    private static void count() {
        LuteTabs x = withNotes(0, 21, 4, 2, 17, 1, 2, 70, 1);
        int[] counts = {3, 2, 5, 0, 0, NONE, 0, 0, 0};
        for (int what = 0; what < 9; what++) due("35 count " + what, x.count(what), counts[what]);
        for (int what : new int[] {-1, 9, MIN, MAX}) due("35 count " + what, x.count(what), BAD);
        x.gone(2);
        x.mend();
        x.keep(2);
        x.lay(0, 4);
        x.type(3);
        x.go(1);
        int[] then = {2, 2, 5, 1, 1, x.wrong(), 1, 1, 1};
        for (int what = 0; what < 9; what++) due("35 count " + what, x.count(what), then[what]);
        x.sheet(0, 0, -1);
        due("35 the latest", x.count(8), 5);
        x.sheet(0, 0, 49);
        due("35 a refusal is no finding", x.count(8), 5);
    }

    private static long[] toldByDigest(LuteTabs x) {
        java.util.stream.LongStream.Builder told = java.util.stream.LongStream.builder();
        for (int what = 0; what < 8; what++) told.add(x.count(what));
        told.add(x.least()).add(x.fault()).add(x.cost());
        for (int c = 0; c < x.count(2); c++) {
            for (int what = 0; what < 3; what++) told.add(x.course(c, what));
            told.add(x.without(c));
        }
        for (int n = 0; n < x.count(0); n++) {
            for (int what = 0; what < 6; what++) told.add(x.info(n, what));
        }
        for (int k = 0; k < x.count(1); k++) {
            for (int what = 0; what < 7; what++) told.add(x.chord(k, what));
        }
        for (int k = -2; k <= 2; k++) told.add(x.key(k));
        told.add(x.easiest(0)).add(x.easiest(1)).add(x.flaw());
        for (int n = NONE; n < x.text(NONE) || n == NONE; n++) told.add(x.text(n));
        for (int s = 0; s < 4; s++) {
            if (x.differ(s) >= 0) told.add(x.differ(s));
        }
        return told.build().toArray();
    }

    private static void digestOf(LuteTabs x) {
        int finding = x.count(8);
        long got = x.digest();
        due("36 digest is no finding", x.count(8), finding);
        due("36 digest again", x.digest(), got);
        long h = 17;
        for (long told : toldByDigest(x)) h = 31 * h + told;
        due("36 digest", got, h);
    }

    private static void digest() {
        LuteTabs x = new LuteTabs();
        digestOf(x);
        x.mend();
        digestOf(x);
        addNotes(x, 0, 21, 4, 0, 13, 4, 2, 17, 1, 4, 22, 2, 4, 13, 2);
        digestOf(x);
        x.mend();
        x.keep(0);
        x.lay(2, 2);
        x.keep(2);
        digestOf(x);
        // A new one, since an object is called 512 times at most.
        x = withNotes(0, 21, 4, 0, 13, 4, 2, 17, 1, 4, 22, 2, 4, 13, 2);
        x.mend();
        x.keep(0);
        typeAll(x, "0:a");
        digestOf(x);
        x.note(9, 70, 9);
        x.courses(3);
        digestOf(x);
        x.set(2, 9);
        digestOf(x);
    }

    public static void main(String[] args) {
        newObject();
        courses();
        tune();
        set();
        note();
        gone();
        clear();
        read();
        info();
        course();
        least();
        spanAndFingers();
        fault();
        mend();
        firstOfLikeOnes();
        lastOfAllWays();
        greatestCost();
        lay();
        wrong();
        cost();
        chord();
        chordOfWrong();
        bars();
        sounding();
        without();
        key();
        easiest();
        slots();
        text();
        type();
        flaw();
        back();
        sheet();
        putAndGet();
        copy();
        write();
        count();
        digest();
        due.end();
    }
}
