/** What several tests make and ask. */
abstract class Lutes {
    static final int NONE = LuteTabs.NONE, BAD = LuteTabs.BAD, NOT = LuteTabs.NOT, FULL = LuteTabs.FULL;
    static final int NULL = -11, INDEX = -12, CAST = -13, STORE = -14, SIZE = -15;
    static final int MIN = Integer.MIN_VALUE, MAX = Integer.MAX_VALUE;
    static final Due due = new Due();

    static void due(String call, long got, long want) {
        due.due(call, got, want);
    }

    static void dueText(String call, String got, String want) {
        due.holds(call + " told " + got + ", due is " + want, got.equals(want));
    }

    static LuteTabs withNotes(int... told) {
        LuteTabs x = new LuteTabs();
        addNotes(x, told);
        return x;
    }

    static void addNotes(LuteTabs x, int... told) {
        for (int i = 0; i < told.length; i += 3) {
            if (x.note(told[i], told[i + 1], told[i + 2]) < 0) {
                throw new IllegalStateException("note " + i / 3 + " was refused");
            }
        }
    }

    static void layAll(LuteTabs x, int... on) {
        for (int n = 0; n < on.length; n++) x.lay(n, on[n]);
    }

    /** The courses that the notes are laid on, a figure each. */
    static String laying(LuteTabs x) {
        StringBuilder on = new StringBuilder();
        for (int n = 0; n < x.count(0); n++) on.append(x.info(n, 5));
        return on.toString();
    }

    static void typeAll(LuteTabs x, String text) {
        x.wipe();
        for (char ch : text.toCharArray()) x.type(ch);
    }

    static String tablature(LuteTabs x) {
        StringBuilder text = new StringBuilder();
        int bytes = x.text(NONE);
        for (int i = 0; i < bytes; i++) text.append((char) x.text(i));
        return text.toString();
    }

    /** A lute whose courses are all tuned to 10, and all settings but these as at first. */
    static LuteTabs alike(int courses) {
        LuteTabs x = new LuteTabs();
        for (int c = 0; c < 5; c++) x.tune(c, 10);
        x.courses(courses);
        return x;
    }

    static void fill(LuteTabs x, int s, int form, int... items) {
        x.sheet(s, form, items.length);
        for (int i = 0; i < items.length; i++) x.put(s, form, i, items[i]);
    }
}
