import java.util.Arrays;

/**
 * Lute tablature: lays notes on courses and frets so that the hand is charged least, judges layings
 * told by hand, and turns layings into text and back.
 */
public final class LuteTabs {
    public static final int NONE = -1, BAD = -2, NOT = -3, FULL = -4;

    private static final int NULL = 1, INDEX = 2, CAST = 3, STORE = 4, SIZE = 5;
    private static final int SHEETS = 4, SLOTS = 4;
    private static final int FARTHEST_KEY = 12;
    private static final int LEAST_INT = -2147483648;
    private static final long LEAST_LONG = -9223372036854775808L;
    private static final long STRETCH_OF_LONGS = 100000007L;

    private final Lute lute = new Lute();
    private final Notes notes = new Notes();
    private final Hand hand = new Hand(lute, notes);
    private final Search search = new Search(lute, notes, hand);
    private final Script typed = new Script(Reader.LONGEST);
    private final Reader reader = new Reader(lute);
    private final Script tablature = new Script(Notes.MOST * Reader.LONGEST_CHORD);
    private final Sheet[] sheets = new Sheet[SHEETS];
    private final int[][] slots = new int[SLOTS][Notes.MOST];
    private final boolean[] kept = new boolean[SLOTS];
    private final int[] laid = new int[Notes.MOST];
    private boolean isLaid = false;
    private int latestFinding = 0;

    public LuteTabs() {
        for (int s = 0; s < SHEETS; s++) {
            sheets[s] = new Sheet();
        }
    }

    // ---- courses, notes

    public int courses(int c) {
        if (c < Lute.FEWEST || c > Lute.MOST) {
            return BAD;
        }
        int was = lute.size;
        lute.size = c;
        startAnew();
        return was;
    }

    public int tune(int c, int pitch) {
        if (!lute.has(c) || pitch < 0 || pitch > Lute.HIGHEST_OPEN) {
            return BAD;
        }
        int was = lute.open[c];
        lute.open[c] = pitch;
        startAnew();
        return was;
    }

    public int set(int what, int v) {
        if (!Lute.mayBeSet(what, v)) {
            return BAD;
        }
        int was = lute.settings[what];
        lute.settings[what] = v;
        if (what == Lute.FRETS) {
            startAnew();
        } else {
            search.forget();
        }
        return was;
    }

    public int note(int time, int pitch, int last) {
        if (!Notes.mayBe(time, pitch, last)) {
            return BAD;
        }
        if (!notes.hasRoomAt(time)) {
            return FULL;
        }
        int number = notes.add(time, pitch, last);
        startAnew();
        return number;
    }

    public int gone(int n) {
        if (!notes.has(n)) {
            return BAD;
        }
        notes.remove(n);
        startAnew();
        return notes.size;
    }

    public int clear() {
        int was = notes.size;
        notes.removeAll();
        startAnew();
        return was;
    }

    public int read(int s) {
        int refusal = refusalOfSheet(s);
        if (refusal != 0) {
            return refusal;
        }
        int told = 0;
        while (told < Notes.MOST && addFromSheet(sheets[s], 3 * told)) {
            told++;
        }
        startAnew();
        return told;
    }

    public int info(int n, int what) {
        if (!notes.has(n)) {
            return BAD;
        }
        switch (what) {
            case 0:
                return notes.time[n];
            case 1:
                return notes.pitch[n];
            case 2:
                return notes.last[n];
            case 3:
                return notes.chordOf[n];
            case 4:
                return coursesFor(n);
            case 5:
                return isLaid ? laid[n] : NONE;
            default:
                return BAD;
        }
    }

    public int course(int c, int what) {
        if (!lute.has(c)) {
            return BAD;
        }
        switch (what) {
            case 0:
                return lute.open[c];
            case 1:
                return notesFor(c);
            case 2:
                return isLaid ? notesLaidOn(c) : 0;
            default:
                return BAD;
        }
    }

    // ---- layings

    public int least() {
        long answer = search.inKey(0);
        return answer < 0 ? NOT : Search.costOf(answer);
    }

    public int fault() {
        long answer = search.inKey(0);
        return answer < 0 ? Search.faultOf(answer) : NONE;
    }

    public int mend() {
        long answer = search.inKey(0);
        if (answer < 0) {
            return NOT;
        }
        for (int n = 0; n < notes.size; n++) {
            laid[n] = Search.courseIn(answer, n);
        }
        isLaid = true;
        return Search.costOf(answer);
    }

    public int lay(int n, int c) {
        if (!notes.has(n) || !lute.has(c)) {
            return BAD;
        }
        int was = isLaid ? laid[n] : NONE;
        if (!isLaid) {
            Arrays.fill(laid, 0);
            isLaid = true;
        }
        laid[n] = c;
        return was;
    }

    public int wrong() {
        return isLaid ? wrongs() : NOT;
    }

    public int cost() {
        return isLaid ? costOfLaid() : NOT;
    }

    public int chord(int k, int what) {
        if (!notes.hasChord(k) || what < 0 || what > 6) {
            return BAD;
        }
        if (what == 0) {
            return notes.timeOfChord(k);
        }
        if (what == 1) {
            return notes.first[k + 1] - notes.first[k];
        }
        if (what == 2) {
            return Integer.bitCount(notes.sounding[k]);
        }
        return isLaid ? ofLaidChord(k, what) : NOT;
    }

    public int without(int c) {
        if (!lute.has(c)) {
            return BAD;
        }
        long answer = search.withoutCourse(c);
        return answer < 0 ? NONE : Search.costOf(answer);
    }

    public int key(int k) {
        if (k < -FARTHEST_KEY || k > FARTHEST_KEY) {
            return BAD;
        }
        long answer = search.inKey(k);
        return answer < 0 ? NONE : Search.costOf(answer);
    }

    public int easiest(int what) {
        if (what != 0 && what != 1) {
            return LEAST_INT;
        }
        int best = NONE;
        int by = 0;
        for (int i = 0; i <= 2 * FARTHEST_KEY; i++) {
            int k = nthNearestKey(i);
            long answer = search.inKey(k);
            if (answer >= 0 && (best == NONE || Search.costOf(answer) < best)) {
                best = Search.costOf(answer);
                by = k;
            }
        }
        if (best == NONE) {
            return LEAST_INT;
        }
        return what == 0 ? by : best;
    }

    // ---- slots

    public int keep(int s) {
        if (!isSlot(s)) {
            return BAD;
        }
        if (!isLaid) {
            return NOT;
        }
        System.arraycopy(laid, 0, slots[s], 0, Notes.MOST);
        kept[s] = true;
        return slotsKept();
    }

    public int go(int s) {
        if (!isSlot(s)) {
            return BAD;
        }
        if (!kept[s]) {
            return finding(NULL);
        }
        System.arraycopy(slots[s], 0, laid, 0, Notes.MOST);
        isLaid = true;
        return costOfLaid();
    }

    public int differ(int s) {
        if (!isSlot(s)) {
            return BAD;
        }
        if (!kept[s]) {
            return finding(NULL);
        }
        if (!isLaid) {
            return NOT;
        }
        int others = 0;
        for (int n = 0; n < notes.size; n++) {
            if (slots[s][n] != laid[n]) {
                others++;
            }
        }
        return others;
    }

    // ---- tablature

    public int text(int n) {
        if (n < NONE) {
            return BAD;
        }
        if (!makeTablature()) {
            return NOT;
        }
        if (n == NONE) {
            return tablature.size;
        }
        return n < tablature.size ? tablature.signs[n] : BAD;
    }

    public int type(int b) {
        if (b < 0 || b > 255) {
            return BAD;
        }
        if (typed.size >= Reader.LONGEST) {
            return FULL;
        }
        typed.append(b);
        return typed.size;
    }

    public int wipe() {
        int was = typed.size;
        typed.size = 0;
        return was;
    }

    public int flaw() {
        return reader.flawOf(typed);
    }

    public int back() {
        if (reader.flawOf(typed) != NONE) {
            return NOT;
        }
        if (reader.found > Notes.MOST) {
            return FULL;
        }
        notes.removeAll();
        startAnew();
        for (int i = 0; i < reader.found; i++) {
            addAsRead(i);
        }
        isLaid = true;
        return notes.size;
    }

    // ---- sheets

    public int sheet(int s, int form, int n) {
        if (!isSheet(s) || !Sheet.isForm(form) || n > Sheet.MOST) {
            return BAD;
        }
        if (n < 0) {
            return finding(SIZE);
        }
        sheets[s].makeNew(form, n);
        return n;
    }

    public int lose(int s) {
        int refusal = refusalOfSheet(s);
        if (refusal != 0) {
            return refusal;
        }
        sheets[s].lost = true;
        return sheets[s].size;
    }

    public int put(int s, int form, int i, int v) {
        if (!isSheet(s) || !Sheet.isForm(form)) {
            return BAD;
        }
        Sheet to = sheets[s];
        if (to.lost) {
            return finding(NULL);
        }
        if (to.form != form) {
            return finding(CAST);
        }
        if (!to.has(i)) {
            return finding(INDEX);
        }
        to.store(i, form == Sheet.LONGS ? v * STRETCH_OF_LONGS : v);
        return 1;
    }

    public long get(int s, int i) {
        int refusal = refusalOfSheet(s);
        if (refusal == 0 && !sheets[s].has(i)) {
            refusal = finding(INDEX);
        }
        return refusal == 0 ? sheets[s].items[i] : LEAST_LONG - refusal;
    }

    public int copy(int s, int i, int t, int j, int n) {
        if (!isSheet(s) || !isSheet(t)) {
            return BAD;
        }
        Sheet from = sheets[s];
        Sheet to = sheets[t];
        if (from.lost || to.lost) {
            return finding(NULL);
        }
        if (from.form != to.form) {
            return finding(STORE);
        }
        if (!from.hasRow(i, n) || !to.hasRow(j, n)) {
            return finding(INDEX);
        }
        System.arraycopy(from.items, i, to.items, j, n);
        return 1;
    }

    public int write(int s) {
        int refusal = refusalOfSheet(s);
        if (refusal != 0) {
            return refusal;
        }
        if (!isLaid) {
            return NOT;
        }
        int written = Math.min(sheets[s].size, notes.size);
        for (int n = 0; n < written; n++) {
            sheets[s].store(n, fretOfLaid(n));
        }
        return written;
    }

    public int count(int what) {
        switch (what) {
            case 0:
                return notes.size;
            case 1:
                return notes.chords;
            case 2:
                return lute.size;
            case 3:
                return search.inKey(0) < 0 ? 0 : 1;
            case 4:
                return isLaid ? 1 : 0;
            case 5:
                return isLaid ? wrongs() : NONE;
            case 6:
                return slotsKept();
            case 7:
                return typed.size;
            case 8:
                return latestFinding;
            default:
                return BAD;
        }
    }

    public long digest() {
        long h = 17;
        for (int what = 0; what <= 7; what++) {
            h = mixed(h, count(what));
        }
        h = mixed(h, least());
        h = mixed(h, fault());
        h = mixed(h, cost());
        for (int c = 0; c < lute.size; c++) {
            for (int what = 0; what <= 2; what++) {
                h = mixed(h, course(c, what));
            }
            h = mixed(h, without(c));
        }
        h = mixedNotes(h);
        h = mixedChords(h);
        for (int k = -2; k <= 2; k++) {
            h = mixed(h, key(k));
        }
        h = mixed(h, easiest(0));
        h = mixed(h, easiest(1));
        h = mixed(h, flaw());
        h = mixedTablature(h);
        for (int s = 0; s < SLOTS; s++) {
            if (kept[s]) {
                h = mixed(h, differ(s));
            }
        }
        return h;
    }

    // ---- of the digest

    private static long mixed(long h, long told) {
        return 31 * h + told;
    }

    private long mixedNotes(long before) {
        long h = before;
        for (int n = 0; n < notes.size; n++) {
            for (int what = 0; what <= 5; what++) {
                h = mixed(h, info(n, what));
            }
        }
        return h;
    }

    private long mixedChords(long before) {
        long h = before;
        for (int k = 0; k < notes.chords; k++) {
            for (int what = 0; what <= 6; what++) {
                h = mixed(h, chord(k, what));
            }
        }
        return h;
    }

    private long mixedTablature(long before) {
        if (!makeTablature()) {
            return mixed(before, NOT);
        }
        long h = mixed(before, tablature.size);
        for (int i = 0; i < tablature.size; i++) {
            h = mixed(h, tablature.signs[i]);
        }
        return h;
    }

    // ---- of notes and courses

    /** Behind a change of the notes, or of where they may be, no laying means what it did. */
    private void startAnew() {
        isLaid = false;
        for (int s = 0; s < SLOTS; s++) {
            kept[s] = false;
        }
        search.forget();
    }

    private boolean addFromSheet(Sheet from, int at) {
        if (!from.hasRow(at, 3)) {
            return false;
        }
        long time = from.items[at];
        long pitch = from.items[at + 1];
        long last = from.items[at + 2];
        if (!Notes.mayBe(time, pitch, last) || !notes.hasRoomAt((int) time)) {
            return false;
        }
        notes.add((int) time, (int) pitch, (int) last);
        return true;
    }

    private int coursesFor(int n) {
        int may = 0;
        for (int c = 0; c < lute.size; c++) {
            if (lute.hasFret(notes.pitch[n] - lute.open[c])) {
                may++;
            }
        }
        return may;
    }

    private int notesFor(int c) {
        int may = 0;
        for (int n = 0; n < notes.size; n++) {
            if (lute.hasFret(notes.pitch[n] - lute.open[c])) {
                may++;
            }
        }
        return may;
    }

    private int notesLaidOn(int c) {
        int on = 0;
        for (int n = 0; n < notes.size; n++) {
            if (laid[n] == c) {
                on++;
            }
        }
        return on;
    }

    // ---- of what is laid

    private int fretOfLaid(int n) {
        return notes.pitch[n] - lute.open[laid[n]];
    }

    private int wrongs() {
        int wrongs = 0;
        for (int n = 0; n < notes.size; n++) {
            if (!lute.hasFret(fretOfLaid(n))) {
                wrongs++;
            }
        }
        for (int k = 0; k < notes.chords; k++) {
            hand.look(k, laid, 0);
            wrongs += hand.wrongs();
        }
        return wrongs;
    }

    private int costOfLaid() {
        int all = 0;
        int lowAhead = 0;
        for (int k = 0; k < notes.chords; k++) {
            hand.look(k, laid, 0);
            all += hand.charge() + lute.chargeOfShift(lowAhead, hand.low);
            lowAhead = hand.low;
        }
        return all;
    }

    private int ofLaidChord(int k, int what) {
        int lowAhead = 0;
        if (k > 0) {
            hand.look(k - 1, laid, 0);
            lowAhead = hand.low;
        }
        hand.look(k, laid, 0);
        if (what == 3) {
            return hand.low;
        }
        if (what == 4) {
            return hand.fingers;
        }
        if (what == 5) {
            return hand.bar ? 1 : 0;
        }
        return hand.charge() + lute.chargeOfShift(lowAhead, hand.low);
    }

    /** 0, -1, 1, -2, 2 and so on: the order in which like keys are preferred. */
    private static int nthNearestKey(int i) {
        int far = (i + 1) / 2;
        return i % 2 == 1 ? -far : far;
    }

    // ---- of slots and tablature

    private static boolean isSlot(int s) {
        return s >= 0 && s < SLOTS;
    }

    private int slotsKept() {
        int full = 0;
        for (int s = 0; s < SLOTS; s++) {
            if (kept[s]) {
                full++;
            }
        }
        return full;
    }

    /** False: there is no tablature of what is laid. */
    private boolean makeTablature() {
        if (!isLaid || wrongs() != 0) {
            return false;
        }
        tablature.size = 0;
        for (int k = 0; k < notes.chords; k++) {
            tablature.appendFigures(notes.timeOfChord(k));
            tablature.append(':');
            for (int c = 0; c < lute.size; c++) {
                tablature.append(letterAt(k, c));
            }
            tablature.append(';');
        }
        return true;
    }

    private int letterAt(int k, int c) {
        for (int n = notes.first[k]; n < notes.first[k + 1]; n++) {
            if (laid[n] == c) {
                return 'a' + fretOfLaid(n);
            }
        }
        return '-';
    }

    /** Notes behind the new one move up, and the courses that they are laid on with them. */
    private void addAsRead(int i) {
        int c = reader.courseOf[i];
        int n = notes.add(reader.timeOf[i], lute.open[c] + reader.fretOf[i], 1);
        for (int m = notes.size - 1; m > n; m--) {
            laid[m] = laid[m - 1];
        }
        laid[n] = c;
    }

    // ---- of sheets

    private static boolean isSheet(int s) {
        return s >= 0 && s < SHEETS;
    }

    /** BAD, the finding that it is lost, or 0. */
    private int refusalOfSheet(int s) {
        if (!isSheet(s)) {
            return BAD;
        }
        return sheets[s].lost ? finding(NULL) : 0;
    }

    private int finding(int number) {
        latestFinding = number;
        return -10 - number;
    }

    /** How many courses there are, their pitches, and what a hand is able to do and charged for. */
    private static final class Lute {
        static final int FEWEST = 2, MOST = 5, HIGHEST_OPEN = 60;
        static final int FRETS = 0, SPAN = 1, SHIFT = 2, PRESS = 3, BARRE = 4;
        private static final int[] LEAST_SETTING = {1, 0, 0, 0, 0};
        private static final int[] GREATEST_SETTING = {9, 6, 9, 9, 9};

        int size = MOST;
        final int[] open = {20, 15, 11, 6, 0};
        final int[] settings = {7, 3, 2, 1, 1};

        static boolean mayBeSet(int what, int v) {
            return what >= FRETS && what <= BARRE && v >= LEAST_SETTING[what] && v <= GREATEST_SETTING[what];
        }

        boolean has(int c) {
            return c >= 0 && c < size;
        }

        boolean hasFret(int fret) {
            return fret >= 0 && fret <= settings[FRETS];
        }

        int chargeOfShift(int lowAhead, int low) {
            return lowAhead > 0 && low > 0 ? settings[SHIFT] * Math.abs(low - lowAhead) : 0;
        }
    }

    /** The notes in their order, and the chords that they make. */
    private static final class Notes {
        static final int MOST = 14, MOST_AT_ONCE = 3;
        static final int LATEST = 199, HIGHEST = 70, LONGEST = 40;

        final int[] time = new int[MOST];
        final int[] pitch = new int[MOST];
        final int[] last = new int[MOST];
        final int[] chordOf = new int[MOST];
        /** The first note of each chord; behind the last chord, how many notes there are. */
        final int[] first = new int[MOST + 1];
        /** Of each chord a bit for each note that sounds at it. */
        final int[] sounding = new int[MOST];
        int size = 0;
        int chords = 0;

        static boolean mayBe(long time, long pitch, long last) {
            return time >= 0 && time <= LATEST && pitch >= 0 && pitch <= HIGHEST && last >= 1 && last <= LONGEST;
        }

        boolean has(int n) {
            return n >= 0 && n < size;
        }

        boolean hasChord(int k) {
            return k >= 0 && k < chords;
        }

        int timeOfChord(int k) {
            return time[first[k]];
        }

        boolean hasRoomAt(int when) {
            int then = 0;
            for (int n = 0; n < size; n++) {
                if (time[n] == when) {
                    then++;
                }
            }
            return size < MOST && then < MOST_AT_ONCE;
        }

        /** Needs room; answers the new note's number. */
        int add(int when, int high, int lasts) {
            int n = size;
            while (n > 0 && (time[n - 1] > when || time[n - 1] == when && pitch[n - 1] > high)) {
                move(n - 1, n);
                n--;
            }
            time[n] = when;
            pitch[n] = high;
            last[n] = lasts;
            size++;
            findChords();
            return n;
        }

        void remove(int n) {
            size--;
            for (int m = n; m < size; m++) {
                move(m + 1, m);
            }
            findChords();
        }

        void removeAll() {
            size = 0;
            findChords();
        }

        private void move(int from, int to) {
            time[to] = time[from];
            pitch[to] = pitch[from];
            last[to] = last[from];
        }

        private void findChords() {
            chords = 0;
            for (int n = 0; n < size; n++) {
                if (n == 0 || time[n] != time[n - 1]) {
                    first[chords] = n;
                    chords++;
                }
                chordOf[n] = chords - 1;
            }
            first[chords] = size;
            for (int k = 0; k < chords; k++) {
                sounding[k] = soundingAt(k);
            }
        }

        private int soundingAt(int k) {
            int bits = 0;
            for (int n = 0; n < first[k + 1]; n++) {
                if (n >= first[k] || time[n] + last[n] > timeOfChord(k)) {
                    bits |= 1 << n;
                }
            }
            return bits;
        }
    }

    /** What the hand does at one chord. */
    private static final class Hand {
        static final int MOST_FINGERS = 4;

        private final Lute lute;
        private final Notes notes;
        int low;
        int fingers;
        boolean bar;
        private boolean doubled;
        private int highest;
        private int pressed;
        private int atLow;
        private int leastAtLow;
        private int greatestAtLow;
        private int coursesUsed;
        private int coursesAtNut;

        Hand(Lute lute, Notes notes) {
            this.lute = lute;
            this.notes = notes;
        }

        /** Looks at a chord, were the notes on these courses and so much higher. */
        void look(int k, int[] courseOf, int higher) {
            low = 0;
            fingers = 0;
            doubled = false;
            highest = 0;
            pressed = 0;
            atLow = 0;
            coursesUsed = 0;
            coursesAtNut = 0;
            for (int n = 0; n < notes.first[k + 1]; n++) {
                if ((notes.sounding[k] >> n & 1) == 1) {
                    int c = courseOf[n];
                    take(c, notes.pitch[n] + higher - lute.open[c], n >= notes.first[k]);
                }
            }
            bar = atLow >= 2 && !nutBetween();
            if (bar) {
                fingers -= atLow - 1;
            }
        }

        private void take(int c, int fret, boolean begins) {
            doubled = doubled || (coursesUsed >> c & 1) == 1;
            coursesUsed |= 1 << c;
            if (fret <= 0) {
                coursesAtNut |= 1 << c;
                return;
            }
            fingers++;
            highest = Math.max(highest, fret);
            if (begins) {
                pressed++;
            }
            if (low == 0 || fret < low) {
                low = fret;
                atLow = 0;
                leastAtLow = c;
                greatestAtLow = c;
            }
            if (fret == low) {
                atLow++;
                leastAtLow = Math.min(leastAtLow, c);
                greatestAtLow = Math.max(greatestAtLow, c);
            }
        }

        private boolean nutBetween() {
            for (int c = leastAtLow + 1; c < greatestAtLow; c++) {
                if ((coursesAtNut >> c & 1) == 1) {
                    return true;
                }
            }
            return false;
        }

        private boolean stretched() {
            return highest - low > lute.settings[Lute.SPAN];
        }

        int wrongs() {
            return (doubled ? 1 : 0) + (fingers > MOST_FINGERS ? 1 : 0) + (stretched() ? 1 : 0);
        }

        /** The cost of the chord but for the shift to it. */
        int charge() {
            return lute.settings[Lute.PRESS] * pressed + (bar ? lute.settings[Lute.BARRE] : 0);
        }
    }

    /** Ways to lay the notes that sound at one chord. */
    private static final class Ways {
        /** Five notes, or four, on five courses: there are no more ways than these. */
        static final int MOST = 120;

        /** The courses, three bits a note, note 0 in the highest ones. */
        final long[] courses = new long[MOST];
        final int[] used = new int[MOST];
        final int[] low = new int[MOST];
        /** The best laying up to this chord that ends so: its cost above the courses of all its notes. */
        final long[] best = new long[MOST];
        int size = 0;

        void startWithNothingLaid() {
            size = 1;
            courses[0] = 0;
            used[0] = 0;
            low[0] = 0;
            best[0] = 0;
        }

        void add(long laidOn, int usedNow) {
            if (size < MOST) {
                courses[size] = laidOn;
                used[size] = usedNow;
                size++;
            }
        }

        long leastBest() {
            long least = best[0];
            for (int w = 1; w < size; w++) {
                least = Math.min(least, best[w]);
            }
            return least;
        }
    }

    /**
     * Finds the best laying chord by chord: of all layings that end with the sounding notes in the same
     * way, only the best can be the beginning of the best one. Cost and courses stand in one long, so
     * that the lesser long is the lesser cost and, of like ones, the first in order.
     */
    private static final class Search {
        private static final int COURSE_BITS = 3;
        private static final int COST_AT = COURSE_BITS * Notes.MOST;
        private static final int KEYS = 2 * FARTHEST_KEY + 1;
        private static final long NO_WAY = -1;

        private final Lute lute;
        private final Notes notes;
        private final Hand hand;
        private Ways ahead = new Ways();
        private Ways now = new Ways();
        private Ways spare = new Ways();
        private final int[] courseOf = new int[Notes.MOST];
        /** Answers by key, then by the course left out, as long as nothing changes. */
        private final long[] answers = new long[KEYS + Lute.MOST];
        private final boolean[] known = new boolean[KEYS + Lute.MOST];

        Search(Lute lute, Notes notes, Hand hand) {
            this.lute = lute;
            this.notes = notes;
            this.hand = hand;
        }

        static int costOf(long answer) {
            return (int) (answer >> COST_AT);
        }

        static int courseIn(long answer, int n) {
            return (int) (answer >> bitsOf(n)) & 7;
        }

        static int faultOf(long answer) {
            return (int) (-1 - answer);
        }

        private static int bitsOf(int n) {
            return COURSE_BITS * (Notes.MOST - 1 - n);
        }

        void forget() {
            for (int i = 0; i < known.length; i++) {
                known[i] = false;
            }
        }

        /** The best laying; below 0: there is none, and faultOf() tells the chord. */
        long inKey(int higher) {
            int i = higher + FARTHEST_KEY;
            if (!known[i]) {
                answers[i] = find(higher, NONE);
                known[i] = true;
            }
            return answers[i];
        }

        /** The best laying without a course; below 0: there is none. */
        long withoutCourse(int c) {
            int i = KEYS + c;
            if (!known[i]) {
                answers[i] = find(0, c);
                known[i] = true;
            }
            return answers[i];
        }

        private long find(int higher, int leftOut) {
            ahead.startWithNothingLaid();
            for (int k = 0; k < notes.chords; k++) {
                now.startWithNothingLaid();
                for (int n = 0; n < notes.first[k + 1]; n++) {
                    if ((notes.sounding[k] >> n & 1) == 1) {
                        spread(n, notes.pitch[n] + higher, leftOut);
                    }
                }
                keepGood(k, higher);
                if (now.size == 0) {
                    return -1 - k;
                }
                Ways done = ahead;
                ahead = now;
                now = done;
            }
            return ahead.leastBest();
        }

        /** Lays one note more, on each course where it may be, in each way that there is now. */
        private void spread(int n, int pitch, int leftOut) {
            spare.size = 0;
            for (int w = 0; w < now.size; w++) {
                for (int c = 0; c < lute.size; c++) {
                    boolean free = c != leftOut && (now.used[w] >> c & 1) == 0;
                    if (free && lute.hasFret(pitch - lute.open[c])) {
                        spare.add(now.courses[w] | (long) c << bitsOf(n), now.used[w] | 1 << c);
                    }
                }
            }
            Ways done = now;
            now = spare;
            spare = done;
        }

        /** Of the ways that there are now keeps those that the hand is able to do and to come to. */
        private void keepGood(int k, int higher) {
            long held = heldBits(k);
            int good = 0;
            for (int w = 0; w < now.size; w++) {
                long laidOn = now.courses[w];
                for (int n = 0; n < notes.first[k + 1]; n++) {
                    courseOf[n] = courseIn(laidOn, n);
                }
                hand.look(k, courseOf, higher);
                long before = hand.wrongs() == 0 ? bestAhead(laidOn, held, hand.low) : NO_WAY;
                if (before != NO_WAY) {
                    now.courses[good] = laidOn;
                    now.low[good] = hand.low;
                    now.best[good] = before + ((long) hand.charge() << COST_AT) | laidOn;
                    good++;
                }
            }
            now.size = good;
        }

        /** The course bits of notes that sound at a chord and began ahead of it. */
        private long heldBits(int k) {
            long bits = 0;
            for (int n = 0; n < notes.first[k]; n++) {
                if ((notes.sounding[k] >> n & 1) == 1) {
                    bits |= 7L << bitsOf(n);
                }
            }
            return bits;
        }

        /** The best of the layings ahead that hold what is held where it is now, with the shift from them. */
        private long bestAhead(long laidOn, long held, int low) {
            long best = NO_WAY;
            for (int w = 0; w < ahead.size; w++) {
                if (((ahead.courses[w] ^ laidOn) & held) == 0) {
                    long shift = lute.chargeOfShift(ahead.low[w], low);
                    long all = ahead.best[w] + (shift << COST_AT);
                    if (best == NO_WAY || all < best) {
                        best = all;
                    }
                }
            }
            return best;
        }
    }

    /** A row of signs that grows up to a bound. */
    private static final class Script {
        final int[] signs;
        int size = 0;

        Script(int longest) {
            signs = new int[longest];
        }

        void append(int sign) {
            if (size < signs.length) {
                signs[size] = sign;
                size++;
            }
        }

        void appendFigures(int number) {
            if (number >= 100) {
                append('0' + number / 100);
            }
            if (number >= 10) {
                append('0' + number / 10 % 10);
            }
            append('0' + number % 10);
        }
    }

    /** Reads a text as tablature, sign by sign, and notes which notes it tells. */
    private static final class Reader {
        static final int LONGEST = 80;
        /** Three figures, a colon, a sign a course, a semicolon. */
        static final int LONGEST_CHORD = 3 + 1 + Lute.MOST + 1;
        private static final int IN_FIGURES = -1;

        private final Lute lute;
        /** How many notes the text tells; rows hold as many of them as there may be. */
        int found;
        final int[] timeOf = new int[Notes.MOST];
        final int[] courseOf = new int[Notes.MOST];
        final int[] fretOf = new int[Notes.MOST];
        private int timeAhead;
        private int time;
        private int column;
        private int letters;

        Reader(Lute lute) {
            this.lute = lute;
        }

        int flawOf(Script text) {
            found = 0;
            time = NONE;
            endChord();
            for (int i = 0; i < text.size; i++) {
                if (!takes(text.signs[i])) {
                    return i;
                }
            }
            boolean atEnd = column == IN_FIGURES && time == NONE;
            return atEnd && text.size > 0 ? NONE : text.size;
        }

        private void endChord() {
            timeAhead = time;
            time = NONE;
            column = IN_FIGURES;
            letters = 0;
        }

        private boolean takes(int sign) {
            if (column == IN_FIGURES) {
                return sign == ':' ? takesColon() : takesFigure(sign);
            }
            if (column < lute.size) {
                return sign == '-' ? takesDash() : takesLetter(sign - 'a');
            }
            if (sign == ';') {
                endChord();
                return true;
            }
            return false;
        }

        private boolean takesColon() {
            if (time <= timeAhead) {
                return false;
            }
            column = 0;
            return true;
        }

        private boolean takesFigure(int sign) {
            if (sign < '0' || sign > '9' || time == 0) {
                return false;
            }
            int longer = (time == NONE ? 0 : 10 * time) + sign - '0';
            if (!mayBecomeTime(longer)) {
                return false;
            }
            time = longer;
            return true;
        }

        /** Whether a time that begins with these figures may come behind the one ahead. */
        private boolean mayBecomeTime(int figures) {
            if (figures > Notes.LATEST) {
                return false;
            }
            if (figures == 0 || figures > timeAhead) {
                return figures > timeAhead;
            }
            return reachesPast(10 * figures, 9) || reachesPast(100 * figures, 99);
        }

        private boolean reachesPast(int from, int more) {
            return from <= Notes.LATEST && Math.min(from + more, Notes.LATEST) > timeAhead;
        }

        private boolean takesDash() {
            if (column == lute.size - 1 && letters == 0) {
                return false;
            }
            column++;
            return true;
        }

        private boolean takesLetter(int fret) {
            if (!lute.hasFret(fret) || letters == Notes.MOST_AT_ONCE) {
                return false;
            }
            if (found < Notes.MOST) {
                timeOf[found] = time;
                courseOf[found] = column;
                fretOf[found] = fret;
            }
            found++;
            letters++;
            column++;
            return true;
        }
    }

    /** A row of items of a form, or lost. */
    private static final class Sheet {
        static final int MOST = 48;
        static final int BYTES = 0, LONGS = 2;

        boolean lost = true;
        int form = BYTES;
        int size = 0;
        final long[] items = new long[MOST];

        static boolean isForm(int form) {
            return form >= BYTES && form <= LONGS;
        }

        void makeNew(int newForm, int newSize) {
            lost = false;
            form = newForm;
            size = newSize;
            Arrays.fill(items, 0);
        }

        boolean has(int i) {
            return i >= 0 && i < size;
        }

        /** Whether n items are there from i on; of no items i may be the size. */
        boolean hasRow(int i, int n) {
            return i >= 0 && n >= 0 && n <= size - i;
        }

        void store(int i, long v) {
            items[i] = form == BYTES ? (byte) v : v;
        }
    }
}
