import java.util.ArrayList;
import java.util.List;

/**
 * Each refused call: what it answers, and that everything stays as it was behind it. Two objects are
 * made alike, one of them is refused, then both are asked for all that the class tells.
 */
public final class RefusalTest extends Lutes {
    private interface Act {
        long on(LuteTabs x);
    }

    private interface Making {
        LuteTabs make();
    }

    // ---- objects to be refused

    /** Everything differs from a new object; slot 0 and 2 are empty, sheet 3 is lost. */
    private static LuteTabs busy() {
        LuteTabs x = new LuteTabs();
        x.tune(4, 3);
        x.tune(0, 21);
        x.courses(4);
        int[] settings = {8, 4, 3, 2, 5};
        for (int what = 0; what < 5; what++) x.set(what, settings[what]);
        addNotes(x, 0, 21, 3, 0, 12, 3, 2, 17, 1, 5, 22, 2);
        x.mend();
        x.keep(1);
        x.lay(2, 0);
        x.keep(3);
        x.go(1);
        typeAll(x, "3:a-b-;17:--c-;");
        fill(x, 0, 0, 1, 2, 3, 4, 5);
        fill(x, 1, 1, 6, 7, 8, 9);
        fill(x, 2, 2, 10, 11, 12);
        return x;
    }

    private static LuteTabs busyAndWrong() {
        LuteTabs x = busy();
        x.lay(0, 0);
        if (x.wrong() == 0) throw new IllegalStateException("it is to be wrong");
        return x;
    }

    private static LuteTabs nothingLaid() {
        LuteTabs x = busy();
        x.tune(0, 21);
        return x;
    }

    private static LuteTabs noNotes() {
        LuteTabs x = busy();
        x.clear();
        return x;
    }

    /** A note that may be nowhere, and a laying by hand. */
    private static LuteTabs noGoodLaying() {
        LuteTabs x = busy();
        x.note(9, 70, 1);
        layAll(x, 2, 0, 1, 0, 3);
        x.keep(1);
        x.lay(1, 1);
        x.keep(3);
        return x;
    }

    private static LuteTabs fourteenNotes() {
        LuteTabs x = busy();
        for (int n = 4; n < 14; n++) x.note(10 + n, 20, 1);
        x.lay(2, 1);
        x.keep(3);
        return x;
    }

    private static LuteTabs threeAtOnce() {
        LuteTabs x = busy();
        x.note(0, 16, 1);
        x.lay(2, 1);
        x.keep(1);
        return x;
    }

    private static LuteTabs fullText() {
        LuteTabs x = busy();
        x.wipe();
        for (int t = 100; t < 108; t++) {
            for (char ch : (t + ":a---;").toCharArray()) x.type(ch);
        }
        for (char ch : "110:-b--".toCharArray()) x.type(ch);
        return x;
    }

    private static LuteTabs withText(String text) {
        LuteTabs x = busy();
        typeAll(x, text);
        return x;
    }

    // ---- asking for everything

    private static void askNotes(LuteTabs x, List<Long> told) {
        for (int what = 0; what < 8; what++) told.add((long) x.count(what));
        for (int n = 0; n < x.count(0); n++) {
            for (int what = 0; what < 6; what++) told.add((long) x.info(n, what));
        }
        told.add((long) x.wrong());
        told.add((long) x.cost());
        told.add((long) x.flaw());
        told.add(x.digest());
    }

    private static void askSheets(LuteTabs x, List<Long> told) {
        for (int s = 0; s < 4; s++) {
            for (int i = 0; i < 7; i++) told.add(x.get(s, i));
            for (int form = 0; form < 3; form++) told.add((long) x.put(s, form, 0, 1));
            told.add((long) x.lose(s));
        }
    }

    private static void askSlots(LuteTabs x, List<Long> told) {
        for (int s = 0; s < 4; s++) {
            told.add((long) x.go(s));
            for (int n = 0; n < x.count(0); n++) told.add((long) x.info(n, 5));
        }
    }

    /** The bytes of THE TEXT can be told by what it becomes alone. */
    private static void askText(LuteTabs x, List<Long> told) {
        told.add((long) x.flaw());
        told.add((long) x.back());
        askNotes(x, told);
        told.add((long) x.wipe());
    }

    private static void askSettings(LuteTabs x, List<Long> told) {
        for (int what = 0; what < 5; what++) told.add((long) x.set(what, 1));
        told.add((long) x.courses(5));
        for (int c = 0; c < 5; c++) told.add((long) x.course(c, 0));
    }

    private interface Asking {
        void ask(LuteTabs x, List<Long> told);
    }

    private static final Asking[] ASKINGS = {RefusalTest::askNotes, RefusalTest::askSheets, RefusalTest::askSlots,
        RefusalTest::askText, RefusalTest::askSettings};

    /** The number of a finding, or 0. */
    private static int findingOf(long answer) {
        long refusal = answer < MIN ? Long.MIN_VALUE - answer : answer;
        return refusal <= -11 && refusal >= -15 ? (int) (-10 - refusal) : 0;
    }

    /** A finding other than the one to come, so that it is seen to come. */
    private static int findAnother(LuteTabs x, int finding) {
        return finding == 1 ? -10 - x.sheet(0, 0, -1) : -10 - x.go(0);
    }

    private static void refused(String what, Making making, Act act, long answer) {
        int finding = findingOf(answer);
        for (int a = 0; a < ASKINGS.length; a++) {
            LuteTabs x = making.make();
            LuteTabs y = making.make();
            if (making.make().go(0) != NULL) throw new IllegalStateException("slot 0 is to be empty");
            findAnother(y, finding);
            int before = findAnother(x, finding);
            due(what, act.on(x), answer);
            due(what + ": count() 8", x.count(8), finding == 0 ? before : finding);
            List<Long> got = new ArrayList<>();
            List<Long> want = new ArrayList<>();
            ASKINGS[a].ask(x, got);
            ASKINGS[a].ask(y, want);
            due.holds(what + " changed what asking " + a + " tells: " + got + ", due is " + want, got.equals(want));
        }
    }

    private static final Making BUSY = RefusalTest::busy;
    private static final Making NOTHING_LAID = RefusalTest::nothingLaid;
    private static final Making[] ALL = {RefusalTest::busy, RefusalTest::busyAndWrong, RefusalTest::nothingLaid,
        RefusalTest::noNotes, RefusalTest::noGoodLaying, RefusalTest::fourteenNotes, RefusalTest::threeAtOnce,
        RefusalTest::fullText, LuteTabs::new};
    /** No sheet or slot has such a number. */
    private static final int[] BEYOND = {-1, 4, MIN, MAX};

    // ---- 2 to 10

    @Says(promise = 2, words = "BAD.")
    private static void courses() {
        for (int c : new int[] {1, 6, 0, -1, MIN, MAX}) refused("courses " + c, BUSY, x -> x.courses(c), BAD);
    }

    @Says(promise = 3, words = "BAD.")
    private static void tune() {
        for (int p : new int[] {-1, 61, MIN, MAX}) refused("tune to " + p, BUSY, x -> x.tune(0, p), BAD);
        for (int c : new int[] {-1, 4, 5, MIN, MAX}) refused("tune of " + c, BUSY, x -> x.tune(c, 30), BAD);
    }

    @Says(promise = 4, words = "BAD.")
    private static void set() {
        int[] below = {0, -1, -1, -1, -1};
        int[] above = {10, 7, 10, 10, 10};
        for (int what = 0; what < 5; what++) {
            int set = what;
            for (int v : new int[] {below[what], above[what], MIN, MAX}) {
                refused("set " + what + " to " + v, BUSY, x -> x.set(set, v), BAD);
            }
        }
        for (int what : new int[] {-1, 5, MIN, MAX}) refused("set of " + what, BUSY, x -> x.set(what, 3), BAD);
    }

    @Says(promise = 5, words = "BAD; FULL: there are 14, or three that begin then.")
    private static void note() {
        int[][] bad = {{-1, 20, 1}, {200, 20, 1}, {0, -1, 1}, {0, 71, 1}, {0, 20, 0}, {0, 20, 41}, {MIN, 20, 1},
            {MAX, 20, 1}, {0, MIN, 1}, {0, MAX, 1}, {0, 20, MIN}, {0, 20, MAX}};
        for (Making making : new Making[] {BUSY, RefusalTest::fourteenNotes, RefusalTest::threeAtOnce}) {
            for (int[] n : bad) {
                refused("note " + n[0] + " " + n[1] + " " + n[2], making, x -> x.note(n[0], n[1], n[2]), BAD);
            }
        }
        refused("a fifteenth", RefusalTest::fourteenNotes, x -> x.note(100, 20, 1), FULL);
        refused("a fifteenth ahead of all", RefusalTest::fourteenNotes, x -> x.note(0, 0, 40), FULL);
        refused("a fourth then", RefusalTest::threeAtOnce, x -> x.note(0, 20, 1), FULL);
    }

    @Says(promise = 6, words = "BAD.")
    private static void gone() {
        for (int n : new int[] {-1, 4, 13, 14, MIN, MAX}) refused("gone " + n, BUSY, x -> x.gone(n), BAD);
        refused("gone of none", RefusalTest::noNotes, x -> x.gone(0), BAD);
        refused("gone 14 of 14", RefusalTest::fourteenNotes, x -> x.gone(14), BAD);
    }

    @Says(promise = 8, words = "BAD; NULL.")
    private static void read() {
        for (int s : BEYOND) refused("read " + s, BUSY, x -> x.read(s), BAD);
        for (Making making : ALL) refused("read of a lost one", making, x -> x.read(3), NULL);
    }

    @Says(promise = 9, words = "BAD.")
    private static void info() {
        for (int n : new int[] {-1, 4, 14, MIN, MAX}) refused("info of " + n, BUSY, x -> x.info(n, 0), BAD);
        for (int what : new int[] {-1, 6, MIN, MAX}) refused("info " + what, BUSY, x -> x.info(0, what), BAD);
    }

    @Says(promise = 10, words = "BAD.")
    private static void course() {
        for (int c : new int[] {-1, 4, 5, MIN, MAX}) refused("course " + c, BUSY, x -> x.course(c, 0), BAD);
        for (int what : new int[] {-1, 3, MIN, MAX}) refused("course 0 " + what, BUSY, x -> x.course(0, what), BAD);
    }

    // ---- 11 to 20

    @Says(promise = 11, words = "NOT: there is no GOOD LAYING.")
    private static void least() {
        refused("least", RefusalTest::noGoodLaying, x -> x.least(), NOT);
    }

    @Says(promise = 13, words = "NOT: there is none.")
    private static void mend() {
        refused("mend", RefusalTest::noGoodLaying, x -> x.mend(), NOT);
    }

    @Says(promise = 14, words = "BAD.")
    private static void lay() {
        for (Making making : new Making[] {BUSY, NOTHING_LAID}) {
            for (int n : new int[] {-1, 4, 14, MIN, MAX}) refused("lay " + n, making, x -> x.lay(n, 0), BAD);
            for (int c : new int[] {-1, 4, 5, MIN, MAX}) refused("lay on " + c, making, x -> x.lay(0, c), BAD);
        }
        refused("lay of no notes", RefusalTest::noNotes, x -> x.lay(0, 0), BAD);
    }

    @Says(promise = 15, words = "NOT: nothing is LAID.")
    private static void wrong() {
        refused("wrong", NOTHING_LAID, x -> x.wrong(), NOT);
        refused("wrong", RefusalTest::noNotes, x -> x.wrong(), NOT);
    }

    @Says(promise = 16, words = "NOT: nothing is.")
    private static void cost() {
        refused("cost", NOTHING_LAID, x -> x.cost(), NOT);
        refused("cost", RefusalTest::noNotes, x -> x.cost(), NOT);
    }

    @Says(promise = 17, words = "BAD; NOT: 3 to 6, and nothing is LAID.")
    private static void chord() {
        for (Making making : new Making[] {BUSY, NOTHING_LAID}) {
            for (int k : new int[] {-1, 3, MIN, MAX}) refused("chord " + k, making, x -> x.chord(k, 3), BAD);
            for (int what : new int[] {-1, 7, MIN, MAX}) refused("chord 0 " + what, making, x -> x.chord(0, what), BAD);
        }
        for (int what = 3; what < 7; what++) {
            int asked = what;
            refused("chord 0 " + what, NOTHING_LAID, x -> x.chord(0, asked), NOT);
        }
    }

    @Says(promise = 18, words = "NONE: there is no such LAYING. BAD.")
    private static void without() {
        for (int c : new int[] {-1, 4, 5, MIN, MAX}) refused("without " + c, BUSY, x -> x.without(c), BAD);
        refused("without 0", RefusalTest::noGoodLaying, x -> x.without(0), NONE);
        refused("what it would cost changes nothing", BUSY, x -> Math.min(x.without(3), 0), 0);
    }

    @Says(promise = 19, words = "NONE: there is no such LAYING. BAD.")
    private static void key() {
        for (int k : new int[] {-13, 13, MIN, MAX}) refused("key " + k, BUSY, x -> x.key(k), BAD);
        refused("key 12", RefusalTest::noGoodLaying, x -> x.key(12), NONE);
        refused("what it would cost changes nothing", BUSY, x -> Math.min(x.key(-1), 0), 0);
    }

    @Says(promise = 20, words = "BAD: the least int; so is NOT: by none there is one.")
    private static void easiest() {
        for (int what : new int[] {-1, 2, MIN, MAX}) refused("easiest " + what, BUSY, x -> x.easiest(what), MIN);
        refused("by none", RefusalTest::noGoodLaying, x -> x.easiest(0), MIN);
        refused("by none", RefusalTest::noGoodLaying, x -> x.easiest(1), MIN);
    }

    // ---- 21 to 23

    @Says(promise = 21, words = "BAD; NOT: nothing is LAID.")
    private static void keep() {
        for (Making making : new Making[] {BUSY, NOTHING_LAID}) {
            for (int s : BEYOND) refused("keep " + s, making, x -> x.keep(s), BAD);
        }
        refused("keep", NOTHING_LAID, x -> x.keep(2), NOT);
    }

    @Says(promise = 22, words = "BAD; NULL.")
    private static void go() {
        for (int s : BEYOND) refused("go " + s, BUSY, x -> x.go(s), BAD);
        for (Making making : ALL) refused("go to an empty one", making, x -> x.go(2), NULL);
    }

    @Says(promise = 23, words = "BAD; NULL; NOT: nothing is LAID.")
    private static void differ() {
        for (Making making : new Making[] {BUSY, NOTHING_LAID}) {
            for (int s : BEYOND) refused("differ " + s, making, x -> x.differ(s), BAD);
        }
        for (Making making : ALL) refused("differ from an empty one", making, x -> x.differ(2), NULL);
    }

    // ---- 24 to 28

    @Says(promise = 24, words = "BAD: n is below NONE; NOT: nothing is LAID, or it is WRONG; BAD: no such byte.")
    private static void text() {
        for (Making making : new Making[] {BUSY, RefusalTest::busyAndWrong, NOTHING_LAID}) {
            for (int n : new int[] {-2, MIN}) refused("text " + n, making, x -> x.text(n), BAD);
        }
        for (Making making : new Making[] {RefusalTest::busyAndWrong, NOTHING_LAID}) {
            for (int n : new int[] {NONE, 0, 200, MAX}) refused("text " + n, making, x -> x.text(n), NOT);
        }
        refused("the first beyond", BUSY, x -> x.text(x.text(NONE)), BAD);
        refused("far beyond", BUSY, x -> x.text(MAX), BAD);
    }

    @Says(promise = 25, words = "BAD; FULL.")
    private static void type() {
        for (Making making : new Making[] {BUSY, RefusalTest::fullText}) {
            for (int b : new int[] {-1, 256, MIN, MAX}) refused("type " + b, making, x -> x.type(b), BAD);
        }
        for (int b : new int[] {0, ';', 255}) refused("type " + b, RefusalTest::fullText, x -> x.type(b), FULL);
    }

    @Says(promise = 28, words = "NOT: it is not RIGHT; FULL: they would be more than 14.")
    private static void back() {
        String fifteen = "0:aaa-;1:aaa-;2:aaa-;3:aaa-;4:aaa-;";
        for (String text : new String[] {"", "0", "0:a---", "0:----;", "0:a---;0:a---;", "0:a---;x", fifteen + "5"}) {
            refused("back of " + text, () -> withText(text), x -> x.back(), NOT);
        }
        refused("back of fifteen", () -> withText(fifteen), x -> x.back(), FULL);
        refused("back of a full one", RefusalTest::fullText, x -> x.back(), NOT);
    }

    // ---- 29 to 35

    @Says(promise = 29, words = "BAD: SHEET, FORM, above 48; SIZE.")
    private static void sheet() {
        for (int n : new int[] {5, -1, 49}) {
            for (int s : BEYOND) refused("sheet " + s, BUSY, x -> x.sheet(s, 0, n), BAD);
            for (int form : new int[] {-1, 3, MIN, MAX}) refused("form " + form, BUSY, x -> x.sheet(0, form, n), BAD);
        }
        for (int s = 0; s < 4; s++) {
            int to = s;
            for (int n : new int[] {49, MAX}) refused("items " + n, BUSY, x -> x.sheet(to, 1, n), BAD);
            for (int n : new int[] {-1, MIN}) refused("items " + n, BUSY, x -> x.sheet(to, 1, n), SIZE);
        }
    }

    @Says(promise = 30, words = "BAD; NULL.")
    private static void lose() {
        for (int s : BEYOND) refused("lose " + s, BUSY, x -> x.lose(s), BAD);
        for (Making making : ALL) refused("lose a lost one", making, x -> x.lose(3), NULL);
    }

    @Says(promise = 31, words = "BAD; NULL; CAST; INDEX.")
    private static void put() {
        for (int s : BEYOND) refused("put to " + s, BUSY, x -> x.put(s, 0, 0, 99), BAD);
        for (int form : new int[] {-1, 3, MIN, MAX}) {
            refused("form " + form, BUSY, x -> x.put(0, form, 0, 99), BAD);
            refused("form " + form + " of a lost one", BUSY, x -> x.put(3, form, 0, 99), BAD);
            refused("form " + form + ", no item", BUSY, x -> x.put(0, form, 5, 99), BAD);
        }
        for (int form = 0; form < 3; form++) {
            int as = form;
            refused("put to a lost one", BUSY, x -> x.put(3, as, -1, 99), NULL);
            for (int s = 0; s < 3; s++) {
                int to = s;
                for (int i : new int[] {0, 9}) {
                    if (s != form) refused("unlike form, item " + i, BUSY, x -> x.put(to, as, i, 99), CAST);
                }
            }
        }
        for (int s = 0; s < 3; s++) {
            int to = s;
            for (int i : new int[] {-1, 5 - s, 48, MIN, MAX}) refused("item " + i, BUSY, x -> x.put(to, to, i, 99), INDEX);
        }
    }

    @Says(promise = 32, words = "BAD; NULL; INDEX.")
    private static void get() {
        for (int s : BEYOND) refused("get of " + s, BUSY, x -> x.get(s, 0), Long.MIN_VALUE + 2);
        for (int i : new int[] {0, -1}) refused("get of a lost one", BUSY, x -> x.get(3, i), Long.MIN_VALUE + 11);
        for (int s = 0; s < 3; s++) {
            int of = s;
            for (int i : new int[] {-1, 5 - s, 48, MIN, MAX}) refused("item " + i, BUSY, x -> x.get(of, i), Long.MIN_VALUE + 12);
        }
    }

    @Says(promise = 33, words = "BAD: the SHEETS; NULL: s, t; STORE; INDEX")
    private static void copy() {
        for (int s : BEYOND) {
            for (int other : new int[] {0, 3}) {
                refused("copy from " + s, BUSY, x -> x.copy(s, 0, other, 0, 1), BAD);
                refused("copy to " + s, BUSY, x -> x.copy(other, 0, s, 0, 1), BAD);
            }
        }
        for (int n : new int[] {1, -1}) {
            for (int s = 0; s < 3; s++) {
                int other = s;
                refused("copy from a lost one to a row of form " + s, BUSY, x -> x.copy(3, 0, other, 0, n), NULL);
                refused("copy to a lost one from a row of form " + s, BUSY, x -> x.copy(other, 0, 3, 0, n), NULL);
            }
            refused("copy of a lost one to itself", BUSY, x -> x.copy(3, 0, 3, 0, n), NULL);
            for (int s = 0; s < 3; s++) {
                int from = s;
                refused("unlike forms", BUSY, x -> x.copy(from, 0, (from + 1) % 3, 0, n), STORE);
                refused("unlike forms", BUSY, x -> x.copy(from, 0, (from + 2) % 3, 0, n), STORE);
            }
        }
        int[][] outside = {{-1, 0, 1}, {0, -1, 1}, {0, 0, -1}, {0, 0, 6}, {1, 0, 5}, {0, 1, 5}, {6, 0, 0}, {0, 6, 0},
            {MAX, 0, MAX}, {0, MAX, MAX}, {MIN, 0, MIN}};
        for (int[] o : outside) refused("copy", BUSY, x -> x.copy(0, o[0], 0, o[1], o[2]), INDEX);
    }

    @Says(promise = 34, words = "BAD; NULL; NOT: nothing is LAID.")
    private static void write() {
        for (Making making : new Making[] {BUSY, NOTHING_LAID}) {
            for (int s : BEYOND) refused("write to " + s, making, x -> x.write(s), BAD);
            refused("write to a lost one", making, x -> x.write(3), NULL);
        }
        for (int s = 0; s < 3; s++) {
            int to = s;
            refused("write", NOTHING_LAID, x -> x.write(to), NOT);
        }
    }

    @Says(promise = 35, words = "BAD.")
    private static void count() {
        for (int what : new int[] {-1, 9, MIN, MAX}) refused("count " + what, BUSY, x -> x.count(what), BAD);
    }

    // ---- acts that are never refused, and change nothing

    @Says(promise = 0, words = "They change nothing (FINDINGS but count() 8).")
    private static void askingChangesNothing() {
        for (Making making : ALL) {
            refused("digest", making, x -> x.digest() * 0, 0);
            refused("fault", making, x -> x.fault() * 0, 0);
            refused("flaw", making, x -> x.flaw() * 0, 0);
            refused("easiest", making, x -> x.easiest(1) * 0, 0);
            for (int what = 0; what < 9; what++) {
                int asked = what;
                refused("count", making, x -> x.count(asked) * 0, 0);
            }
        }
    }

    /** What is asked tells objects apart that differ in one thing alone; else it would prove nothing. */
    @Says(promise = 0, words = "They change nothing")
    private static void askingSeesEachChange() {
        Act[] changes = {x -> x.courses(5), x -> x.tune(0, 22), x -> x.set(0, 7), x -> x.set(1, 3), x -> x.set(2, 2),
            x -> x.set(3, 1), x -> x.set(4, 1), x -> x.note(9, 20, 1), x -> x.gone(0), x -> x.clear(), x -> x.read(0),
            x -> x.lay(0, 3), x -> x.keep(0), x -> x.keep(3), x -> x.go(3), x -> x.type('9'), x -> x.wipe(),
            x -> x.back(), x -> x.sheet(0, 0, 5), x -> x.sheet(0, 1, 5), x -> x.sheet(3, 0, 0), x -> x.lose(2),
            x -> x.put(0, 0, 4, 9), x -> x.put(2, 2, 1, 9), x -> x.copy(1, 0, 1, 1, 2), x -> x.write(0)};
        for (int i = 0; i < changes.length; i++) {
            boolean seen = false;
            for (Asking asking : ASKINGS) {
                LuteTabs x = busy();
                LuteTabs y = busy();
                changes[i].on(x);
                List<Long> got = new ArrayList<>();
                List<Long> want = new ArrayList<>();
                asking.ask(x, got);
                asking.ask(y, want);
                seen = seen || !got.equals(want);
            }
            due.holds("change " + i + " is seen", seen);
        }
    }

    public static void main(String[] args) throws Exception {
        Sentences.run(RefusalTest.class, due, 2, 6);
    }
}
