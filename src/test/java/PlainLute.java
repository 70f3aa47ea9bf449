import java.util.ArrayList;
import java.util.Arrays;
import java.util.HashMap;
import java.util.List;
import java.util.Map;

/**
 * The document once more, as plainly as its words go, to set LuteTabs against. It keeps to none of
 * LuteTabs' ways: layings are tried from the first note on, texts are compared with whole ones.
 */
final class PlainLute {
    private static final int NONE = -1, BAD = -2, NOT = -3, FULL = -4;

    /** Layings of so many notes are all tried one by one; of more, what was found once is known. */
    private static final int FEW = 6;

    private int courses = 5;
    private final int[] open = {20, 15, 11, 6, 0};
    private final int[] settings = {7, 3, 2, 1, 1};
    private List<int[]> notes = new ArrayList<>();
    private int[] laid = null;
    private int[][] slots = new int[4][];
    private String text = "";
    private final Object[] sheets = new Object[4];
    private int latest = 0;

    private final Map<String, int[]> known = new HashMap<>();
    private int[] searchBest;

    long call(String name, int... a) {
        switch (name) {
            case "courses": return courses(a[0]);
            case "tune": return tune(a[0], a[1]);
            case "set": return set(a[0], a[1]);
            case "note": return note(a[0], a[1], a[2]);
            case "gone": return gone(a[0]);
            case "clear": return clear();
            case "read": return read(a[0]);
            case "info": return info(a[0], a[1]);
            case "course": return course(a[0], a[1]);
            case "least": return least();
            case "fault": return fault();
            case "mend": return mend();
            case "lay": return lay(a[0], a[1]);
            case "wrong": return laid == null ? NOT : wrongs();
            case "cost": return laid == null ? NOT : costOf(laid, chordTimes().length);
            case "chord": return chord(a[0], a[1]);
            case "without": return a[0] < 0 || a[0] >= courses ? BAD : leastOr(0, a[0], NONE);
            case "key": return Math.abs((long) a[0]) > 12 ? BAD : leastOr(a[0], NONE, NONE);
            case "easiest": return easiest(a[0]);
            case "keep": return keep(a[0]);
            case "go": return go(a[0]);
            case "differ": return differ(a[0]);
            case "text": return text(a[0]);
            case "type": return type(a[0]);
            case "wipe": return wipe();
            case "flaw": return flaw();
            case "back": return back();
            case "sheet": return sheet(a[0], a[1], a[2]);
            case "lose": return lose(a[0]);
            case "put": return put(a[0], a[1], a[2], a[3]);
            case "get": return get(a[0], a[1]);
            case "copy": return copy(a[0], a[1], a[2], a[3], a[4]);
            case "write": return write(a[0]);
            case "count": return count(a[0]);
            case "digest": return digest();
            default: throw new IllegalArgumentException(name);
        }
    }

    private void unlay() {
        laid = null;
        slots = new int[4][];
    }

    private int find(int number) {
        latest = number;
        return -10 - number;
    }

    // ---- courses, notes

    private int courses(int c) {
        if (c < 2 || c > 5) return BAD;
        int was = courses;
        courses = c;
        unlay();
        return was;
    }

    private int tune(int c, int pitch) {
        if (c < 0 || c >= courses || pitch < 0 || pitch > 60) return BAD;
        int was = open[c];
        open[c] = pitch;
        unlay();
        return was;
    }

    private int set(int what, int v) {
        int[] from = {1, 0, 0, 0, 0};
        int[] to = {9, 6, 9, 9, 9};
        if (what < 0 || what > 4 || v < from[what] || v > to[what]) return BAD;
        int was = settings[what];
        settings[what] = v;
        if (what == 0) unlay();
        return was;
    }

    private boolean mayBe(long time, long pitch, long last) {
        return time >= 0 && time <= 199 && pitch >= 0 && pitch <= 70 && last >= 1 && last <= 40;
    }

    private boolean room(int time) {
        return notes.size() < 14 && notes.stream().filter(n -> n[0] == time).count() < 3;
    }

    private int tell(int time, int pitch, int last) {
        int[] mine = {time, pitch, last};
        notes.add(mine);
        // List.sort is stable: like ones stay as they were told.
        notes.sort((x, y) -> x[0] != y[0] ? x[0] - y[0] : x[1] - y[1]);
        for (int n = 0; n < notes.size(); n++) {
            if (notes.get(n) == mine) return n;
        }
        throw new IllegalStateException();
    }

    private int note(int time, int pitch, int last) {
        if (!mayBe(time, pitch, last)) return BAD;
        if (!room(time)) return FULL;
        unlay();
        return tell(time, pitch, last);
    }

    private int gone(int n) {
        if (n < 0 || n >= notes.size()) return BAD;
        notes.remove(n);
        unlay();
        return notes.size();
    }

    private int clear() {
        int was = notes.size();
        notes.clear();
        unlay();
        return was;
    }

    private int read(int s) {
        if (s < 0 || s > 3) return BAD;
        if (sheets[s] == null) return find(1);
        int told = 0;
        for (int i = 0; i + 2 < sizeOf(s); i += 3) {
            long t = item(s, i);
            long p = item(s, i + 1);
            long l = item(s, i + 2);
            if (!mayBe(t, p, l) || !room((int) t)) break;
            tell((int) t, (int) p, (int) l);
            told++;
        }
        unlay();
        return told;
    }

    private boolean playable(int fret) {
        return fret >= 0 && fret <= settings[0];
    }

    private int info(int n, int what) {
        if (n < 0 || n >= notes.size() || what < 0 || what > 5) return BAD;
        int[] note = notes.get(n);
        if (what <= 2) return note[what];
        if (what == 3) return Arrays.binarySearch(chordTimes(), note[0]);
        if (what == 5) return laid == null ? NONE : laid[n];
        int may = 0;
        for (int c = 0; c < courses; c++) {
            if (playable(note[1] - open[c])) may++;
        }
        return may;
    }

    private int course(int c, int what) {
        if (c < 0 || c >= courses || what < 0 || what > 2) return BAD;
        if (what == 0) return open[c];
        int n = 0;
        for (int i = 0; i < notes.size(); i++) {
            boolean counts = what == 1 ? playable(notes.get(i)[1] - open[c]) : laid != null && laid[i] == c;
            if (counts) n++;
        }
        return n;
    }

    // ---- layings

    private int[] chordTimes() {
        return notes.stream().mapToInt(n -> n[0]).distinct().toArray();
    }

    private List<Integer> sounding(int k) {
        int at = chordTimes()[k];
        List<Integer> found = new ArrayList<>();
        for (int n = 0; n < notes.size(); n++) {
            int[] note = notes.get(n);
            if (note[0] == at || note[0] < at && note[0] + note[2] > at) found.add(n);
        }
        return found;
    }

    private int fret(int n, int[] on) {
        return notes.get(n)[1] - open[on[n]];
    }

    private int fretUp(int n, int[] on) {
        return Math.max(0, fret(n, on));
    }

    private int low(int k, int[] on) {
        return sounding(k).stream().mapToInt(n -> fretUp(n, on)).filter(f -> f > 0).min().orElse(0);
    }

    private boolean bar(int k, int[] on) {
        int low = low(k, on);
        if (low == 0) return false;
        int[] at = sounding(k).stream().filter(n -> fretUp(n, on) == low).mapToInt(n -> on[n]).sorted().toArray();
        if (at.length < 2) return false;
        return sounding(k).stream().noneMatch(n -> fretUp(n, on) == 0 && on[n] > at[0] && on[n] < at[at.length - 1]);
    }

    private int fingers(int k, int[] on) {
        int low = low(k, on);
        boolean bar = bar(k, on);
        int fingers = bar ? 1 : 0;
        for (int n : sounding(k)) {
            int f = fretUp(n, on);
            if (f > 0 && !(bar && f == low)) fingers++;
        }
        return fingers;
    }

    private int chordCost(int k, int[] on) {
        int cost = 0;
        int low = low(k, on);
        int before = k == 0 ? 0 : low(k - 1, on);
        if (low > 0 && before > 0) cost += settings[2] * Math.abs(low - before);
        for (int n = 0; n < notes.size(); n++) {
            if (notes.get(n)[0] == chordTimes()[k] && fret(n, on) > 0) cost += settings[3];
        }
        return cost + (bar(k, on) ? settings[4] : 0);
    }

    private int costOf(int[] on, int chords) {
        int cost = 0;
        for (int k = 0; k < chords; k++) cost += chordCost(k, on);
        return cost;
    }

    private int wrongsOfChord(int k, int[] on) {
        List<Integer> all = sounding(k);
        int wrong = 0;
        if (all.stream().map(n -> on[n]).distinct().count() < all.size()) wrong++;
        if (fingers(k, on) > 4) wrong++;
        int low = low(k, on);
        if (all.stream().anyMatch(n -> fretUp(n, on) > low + settings[1])) wrong++;
        return wrong;
    }

    private int wrongs() {
        int wrong = 0;
        for (int n = 0; n < notes.size(); n++) {
            if (!playable(fret(n, laid))) wrong++;
        }
        for (int k = 0; k < chordTimes().length; k++) wrong += wrongsOfChord(k, laid);
        return wrong;
    }

    /**
     * Tries the courses of note n and those behind it, up to a chord, in their order; only a lesser cost
     * is taken, so the first of like ones stays. Answers the cost, then the courses; null: none is good.
     */
    private int[] bestFrom(int n, int[] on, int chords, int leftOut) {
        if (n == notes.size() || chordOf(n) == chords) return new int[1];
        boolean beginsChord = n == 0 || chordOf(n) != chordOf(n - 1);
        String seen = beginsChord && notes.size() > FEW ? seenFrom(chordOf(n), on) : null;
        if (seen != null && known.containsKey(seen)) return known.get(seen);
        int[] best = null;
        for (int c = 0; c < courses; c++) {
            on[n] = c;
            int[] rest = c == leftOut || !playable(fret(n, on)) ? null : bestBehind(n, on, chords, leftOut);
            if (rest != null && (best == null || rest[0] < best[0])) {
                best = new int[rest.length + 1];
                best[0] = rest[0];
                best[1] = c;
                System.arraycopy(rest, 1, best, 2, rest.length - 1);
            }
        }
        if (seen != null) known.put(seen, best);
        return best;
    }

    /** As bestFrom, of the notes behind note n, with the cost of its chord if that is whole now. */
    private int[] bestBehind(int n, int[] on, int chords, int leftOut) {
        boolean endsChord = n + 1 == notes.size() || chordOf(n + 1) != chordOf(n);
        if (!endsChord) return bestFrom(n + 1, on, chords, leftOut);
        if (wrongsOfChord(chordOf(n), on) != 0) return null;
        int cost = chordCost(chordOf(n), on);
        int[] rest = bestFrom(n + 1, on, chords, leftOut);
        if (rest == null) return null;
        int[] all = rest.clone();
        all[0] += cost;
        return all;
    }

    private int chordOf(int n) {
        return Arrays.binarySearch(chordTimes(), notes.get(n)[0]);
    }

    /** All that a chord and those behind it see of what is laid: the notes that sound at the chord ahead. */
    private String seenFrom(int k, int[] on) {
        StringBuilder seen = new StringBuilder().append(k);
        if (k > 0) sounding(k - 1).forEach(n -> seen.append(' ').append(on[n]));
        return seen.toString();
    }

    private int search(int higher, int leftOut, int chords) {
        known.clear();
        List<int[]> was = notes;
        notes = new ArrayList<>();
        for (int[] n : was) notes.add(new int[] {n[0], n[1] + higher, n[2]});
        int[] best = bestFrom(0, new int[was.size()], chords, leftOut);
        notes = was;
        searchBest = best == null ? null : Arrays.copyOfRange(best, 1, best.length);
        return best == null ? NONE : best[0];
    }

    private int leastOr(int higher, int leftOut, int otherwise) {
        int least = search(higher, leftOut, chordTimes().length);
        return least == NONE ? otherwise : least;
    }

    private int least() {
        return leastOr(0, NONE, NOT);
    }

    private int fault() {
        for (int k = 0; k < chordTimes().length; k++) {
            if (search(0, NONE, k + 1) == NONE) return k;
        }
        return NONE;
    }

    private int mend() {
        int least = least();
        if (least != NOT) laid = searchBest;
        return least;
    }

    private int lay(int n, int c) {
        if (n < 0 || n >= notes.size() || c < 0 || c >= courses) return BAD;
        int was = laid == null ? NONE : laid[n];
        if (laid == null) laid = new int[notes.size()];
        laid[n] = c;
        return was;
    }

    private int chord(int k, int what) {
        if (k < 0 || k >= chordTimes().length || what < 0 || what > 6) return BAD;
        int at = chordTimes()[k];
        if (what == 0) return at;
        if (what == 1) return (int) notes.stream().filter(n -> n[0] == at).count();
        if (what == 2) return sounding(k).size();
        if (laid == null) return NOT;
        if (what == 3) return low(k, laid);
        if (what == 4) return fingers(k, laid);
        if (what == 5) return bar(k, laid) ? 1 : 0;
        return chordCost(k, laid);
    }

    private int easiest(int what) {
        int best = NONE;
        int by = 0;
        for (int k = -12; k <= 12; k++) {
            int cost = leastOr(k, NONE, NONE);
            if (cost == NONE) continue;
            if (best == NONE || cost < best || cost == best && Math.abs(k) < Math.abs(by)) {
                best = cost;
                by = k;
            }
        }
        if (what < 0 || what > 1 || best == NONE) return Integer.MIN_VALUE;
        return what == 0 ? by : best;
    }

    // ---- slots

    private int keptSlots() {
        return (int) Arrays.stream(slots).filter(s -> s != null).count();
    }

    private int keep(int s) {
        if (s < 0 || s > 3) return BAD;
        if (laid == null) return NOT;
        slots[s] = laid.clone();
        return keptSlots();
    }

    private int go(int s) {
        if (s < 0 || s > 3) return BAD;
        if (slots[s] == null) return find(1);
        laid = slots[s].clone();
        return costOf(laid, chordTimes().length);
    }

    private int differ(int s) {
        if (s < 0 || s > 3) return BAD;
        if (slots[s] == null) return find(1);
        if (laid == null) return NOT;
        int d = 0;
        for (int n = 0; n < laid.length; n++) {
            if (laid[n] != slots[s][n]) d++;
        }
        return d;
    }

    // ---- tablature

    /** The tablature of what is laid; null: there is none. */
    private String tablature() {
        if (laid == null || wrongs() != 0) return null;
        StringBuilder made = new StringBuilder();
        for (int at : chordTimes()) {
            char[] letters = new char[courses];
            Arrays.fill(letters, '-');
            for (int n = 0; n < notes.size(); n++) {
                if (notes.get(n)[0] == at) letters[laid[n]] = "abcdefghij".charAt(fret(n, laid));
            }
            made.append(at).append(':').append(letters).append(';');
        }
        return made.toString();
    }

    private int text(int n) {
        if (n < NONE) return BAD;
        String tab = tablature();
        if (tab == null) return NOT;
        if (n == NONE) return tab.length();
        return n < tab.length() ? tab.charAt(n) : BAD;
    }

    private int type(int b) {
        if (b < 0 || b > 255) return BAD;
        if (text.length() == 80) return FULL;
        text += (char) b;
        return text.length();
    }

    private int wipe() {
        int was = text.length();
        text = "";
        return was;
    }

    /** Whether some letters of a chord could be made whole by more of them. */
    private boolean lettersBegin(String some) {
        String may = "abcdefghij".substring(0, settings[0] + 1);
        int letters = 0;
        for (char ch : some.toCharArray()) {
            if (may.indexOf(ch) >= 0) letters++;
            else if (ch != '-') return false;
        }
        return some.length() <= courses && letters <= 3 && (letters > 0 || some.length() < courses);
    }

    /** The time of a whole chord, or -1. */
    private int wholeChord(String chord, int ahead) {
        for (int t = ahead + 1; t <= 199; t++) {
            if (chord.startsWith(t + ":")) {
                String rest = chord.substring((t + ":").length());
                return rest.length() == courses && lettersBegin(rest) ? t : -1;
            }
        }
        return -1;
    }

    private boolean chordBegins(String some, int ahead) {
        for (int t = ahead + 1; t <= 199; t++) {
            String head = t + ":";
            if (head.startsWith(some)) return true;
            if (some.startsWith(head) && lettersBegin(some.substring(head.length()))) return true;
        }
        return false;
    }

    /** 2: right, 1: the beginning of a right one, 0: neither. */
    private int judge(String some) {
        int ahead = -1;
        String rest = some;
        while (rest.indexOf(';') >= 0) {
            ahead = wholeChord(rest.substring(0, rest.indexOf(';')), ahead);
            if (ahead < 0) return 0;
            rest = rest.substring(rest.indexOf(';') + 1);
        }
        if (rest.isEmpty()) return some.isEmpty() ? 1 : 2;
        return chordBegins(rest, ahead) ? 1 : 0;
    }

    private int flaw() {
        for (int i = 0; i < text.length(); i++) {
            if (judge(text.substring(0, i + 1)) == 0) return i;
        }
        return judge(text) == 2 ? NONE : text.length();
    }

    private int back() {
        if (flaw() != NONE) return NOT;
        List<int[]> told = new ArrayList<>();
        for (String chord : text.split(";")) {
            String[] parts = chord.split(":");
            for (int c = 0; c < courses; c++) {
                int f = parts[1].charAt(c) - 'a';
                if (f >= 0) told.add(new int[] {Integer.parseInt(parts[0]), open[c] + f, 1, c});
            }
        }
        if (told.size() > 14) return FULL;
        told.sort((x, y) -> x[0] != y[0] ? x[0] - y[0] : x[1] - y[1]);
        unlay();
        notes = new ArrayList<>();
        told.forEach(n -> notes.add(new int[] {n[0], n[1], n[2]}));
        laid = told.stream().mapToInt(n -> n[3]).toArray();
        return notes.size();
    }

    // ---- sheets

    private int sizeOf(int s) {
        return java.lang.reflect.Array.getLength(sheets[s]);
    }

    private long item(int s, int i) {
        return java.lang.reflect.Array.getLong(sheets[s], i);
    }

    private int formOf(int s) {
        return sheets[s] instanceof byte[] ? 0 : sheets[s] instanceof int[] ? 1 : 2;
    }

    private void putItem(int s, int i, long v) {
        if (sheets[s] instanceof byte[] row) row[i] = (byte) v;
        if (sheets[s] instanceof int[] row) row[i] = (int) v;
        if (sheets[s] instanceof long[] row) row[i] = v;
    }

    private int sheet(int s, int form, int n) {
        if (s < 0 || s > 3 || form < 0 || form > 2 || n > 48) return BAD;
        if (n < 0) return find(5);
        sheets[s] = form == 0 ? new byte[n] : form == 1 ? new int[n] : new long[n];
        return n;
    }

    private int lose(int s) {
        if (s < 0 || s > 3) return BAD;
        if (sheets[s] == null) return find(1);
        int size = sizeOf(s);
        sheets[s] = null;
        return size;
    }

    private int put(int s, int form, int i, int v) {
        if (s < 0 || s > 3 || form < 0 || form > 2) return BAD;
        if (sheets[s] == null) return find(1);
        if (formOf(s) != form) return find(3);
        if (i < 0 || i >= sizeOf(s)) return find(2);
        putItem(s, i, form == 2 ? v * 100000007L : v);
        return 1;
    }

    private long get(int s, int i) {
        if (s < 0 || s > 3) return Long.MIN_VALUE + 2;
        if (sheets[s] == null) return Long.MIN_VALUE - find(1);
        if (i < 0 || i >= sizeOf(s)) return Long.MIN_VALUE - find(2);
        return item(s, i);
    }

    private int copy(int s, int i, int t, int j, int n) {
        if (s < 0 || s > 3 || t < 0 || t > 3) return BAD;
        if (sheets[s] == null || sheets[t] == null) return find(1);
        if (formOf(s) != formOf(t)) return find(4);
        boolean there = i >= 0 && j >= 0 && n >= 0 && (long) i + n <= sizeOf(s) && (long) j + n <= sizeOf(t);
        if (!there) return find(2);
        long[] taken = new long[n];
        for (int m = 0; m < n; m++) taken[m] = item(s, i + m);
        for (int m = 0; m < n; m++) putItem(t, j + m, taken[m]);
        return 1;
    }

    private int write(int s) {
        if (s < 0 || s > 3) return BAD;
        if (sheets[s] == null) return find(1);
        if (laid == null) return NOT;
        int n = 0;
        while (n < notes.size() && n < sizeOf(s)) {
            putItem(s, n, fret(n, laid));
            n++;
        }
        return n;
    }

    private int count(int what) {
        switch (what) {
            case 0: return notes.size();
            case 1: return chordTimes().length;
            case 2: return courses;
            case 3: return least() == NOT ? 0 : 1;
            case 4: return laid == null ? 0 : 1;
            case 5: return laid == null ? NONE : wrongs();
            case 6: return keptSlots();
            case 7: return text.length();
            case 8: return latest;
            default: return BAD;
        }
    }

    private long digest() {
        List<Long> told = new ArrayList<>();
        for (int w = 0; w < 8; w++) told.add(call("count", w));
        for (String name : List.of("least", "fault", "cost")) told.add(call(name));
        for (int c = 0; c < courses; c++) {
            for (int w = 0; w < 3; w++) told.add(call("course", c, w));
            told.add(call("without", c));
        }
        for (int n = 0; n < notes.size(); n++) {
            for (int w = 0; w < 6; w++) told.add(call("info", n, w));
        }
        for (int k = 0; k < chordTimes().length; k++) {
            for (int w = 0; w < 7; w++) told.add(call("chord", k, w));
        }
        for (int k = -2; k <= 2; k++) told.add(call("key", k));
        told.add(call("easiest", 0));
        told.add(call("easiest", 1));
        told.add(call("flaw"));
        String tab = tablature();
        told.add((long) (tab == null ? NOT : tab.length()));
        for (int i = 0; tab != null && i < tab.length(); i++) told.add((long) tab.charAt(i));
        for (int s = 0; s < 4; s++) {
            if (slots[s] != null) told.add(call("differ", s));
        }
        long h = 17;
        for (long t : told) h = 31 * h + t;
        return h;
    }
}
