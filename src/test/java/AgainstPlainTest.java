import java.util.Random;

/** Runs of calls, the same every time, on LuteTabs and on PlainLute: all answers are to be alike. */
public final class AgainstPlainTest {
    private static final int MOST_CALLS = 512;
    private static final Due due = new Due();

    private final Random by;
    private final String run;
    private final LuteTabs lute = new LuteTabs();
    private final PlainLute plain = new PlainLute();
    private final StringBuilder told = new StringBuilder();
    private int calls = 0;
    /** How many notes a run may have: PlainLute tries all layings of few, so some runs stay with few. */
    private int mostNotes;
    private int lowest;
    private int highest;

    private AgainstPlainTest(String kind, int seed) {
        run = kind + " " + seed;
        by = new Random(seed);
    }

    private int below(int n) {
        return by.nextInt(n);
    }

    private long call(String name, int... a) {
        long got = answer(name, a);
        long want = plain.call(name, a);
        StringBuilder shown = new StringBuilder(name).append('(');
        for (int i = 0; i < a.length; i++) {
            shown.append(i == 0 ? "" : ", ").append(a[i]);
        }
        shown.append(')');
        told.append(shown).append(' ');
        calls++;
        due.due("run " + run + ", call " + calls + ": " + shown, got, want);
        return want;
    }

    private long answer(String name, int[] a) {
        switch (name) {
            case "courses": return lute.courses(a[0]);
            case "tune": return lute.tune(a[0], a[1]);
            case "set": return lute.set(a[0], a[1]);
            case "note": return lute.note(a[0], a[1], a[2]);
            case "gone": return lute.gone(a[0]);
            case "clear": return lute.clear();
            case "read": return lute.read(a[0]);
            case "info": return lute.info(a[0], a[1]);
            case "course": return lute.course(a[0], a[1]);
            case "least": return lute.least();
            case "fault": return lute.fault();
            case "mend": return lute.mend();
            case "lay": return lute.lay(a[0], a[1]);
            case "wrong": return lute.wrong();
            case "cost": return lute.cost();
            case "chord": return lute.chord(a[0], a[1]);
            case "without": return lute.without(a[0]);
            case "key": return lute.key(a[0]);
            case "easiest": return lute.easiest(a[0]);
            case "keep": return lute.keep(a[0]);
            case "go": return lute.go(a[0]);
            case "differ": return lute.differ(a[0]);
            case "text": return lute.text(a[0]);
            case "type": return lute.type(a[0]);
            case "wipe": return lute.wipe();
            case "flaw": return lute.flaw();
            case "back": return lute.back();
            case "sheet": return lute.sheet(a[0], a[1], a[2]);
            case "lose": return lute.lose(a[0]);
            case "put": return lute.put(a[0], a[1], a[2], a[3]);
            case "get": return lute.get(a[0], a[1]);
            case "copy": return lute.copy(a[0], a[1], a[2], a[3], a[4]);
            case "write": return lute.write(a[0]);
            case "count": return lute.count(a[0]);
            case "digest": return lute.digest();
            default: throw new IllegalArgumentException(name);
        }
    }

    /** A number of 0 to n - 1, now and then one that lies just or far outside. */
    private int about(int n) {
        int kind = below(40);
        if (kind == 0) return -1;
        if (kind == 1) return n;
        if (kind == 2) return Integer.MIN_VALUE + below(3);
        if (kind == 3) return Integer.MAX_VALUE - below(3);
        return below(Math.max(1, n));
    }

    private int notes() {
        return (int) plain.call("count", 0);
    }

    private int chords() {
        return (int) plain.call("count", 1);
    }

    private void tell() {
        if (notes() >= mostNotes) {
            call("gone", about(notes()));
            return;
        }
        int time = below(12) * (1 + below(2));
        call("note", time, lowest + below(highest - lowest + 1), 1 + below(below(3) == 0 ? 20 : 5));
    }

    private void look() {
        call("info", about(notes()), about(6));
        call("course", about(5), about(3));
        call("chord", about(chords()), about(7));
        call("count", about(9));
    }

    private void judge() {
        switch (below(8)) {
            case 0: call("least"); break;
            case 1: call("fault"); break;
            case 2: call("without", about(5)); break;
            case 3: call("key", below(27) - 13); break;
            case 4: call("easiest", about(2)); break;
            case 5: call("wrong"); break;
            case 6: call("cost"); break;
            default: call("digest"); break;
        }
    }

    private void layings() {
        switch (below(7)) {
            case 0:
            case 1: call("mend"); break;
            case 2:
            case 3: call("lay", about(notes()), about(5)); break;
            case 4: call("keep", about(4)); break;
            case 5: call("go", about(4)); break;
            default: call("differ", about(4)); break;
        }
        call("wrong");
        call("cost");
        if (chords() > 0) {
            int k = below(chords());
            for (int what = 3; what <= 6; what++) call("chord", k, what);
        }
    }

    private void change() {
        switch (below(6)) {
            case 0: call("courses", about(6)); break;
            case 1: call("tune", about(5), about(61)); break;
            case 2: call("set", 0, about(11)); break;
            case 3:
            case 4: call("set", about(5), about(10)); break;
            default:
                if (below(10) == 0) call("clear");
                else call("set", 1 + below(4), below(7));
                break;
        }
    }

    private void type(String text) {
        for (char ch : text.toCharArray()) call("type", ch);
    }

    private String someText() {
        StringBuilder text = new StringBuilder();
        int courses = (int) plain.call("count", 2);
        int time = below(15);
        for (int k = 1 + below(6); k > 0; k--) {
            text.append(time).append(':');
            int letters = 1 + below(Math.min(3, courses));
            for (int c = 0; c < courses; c++) {
                boolean letter = below(courses - c) < letters;
                if (letter) letters--;
                text.append(letter ? (char) ('a' + below(5)) : '-');
            }
            text.append(';');
            time += 1 + below(below(3) == 0 ? 90 : 9);
        }
        return text.toString();
    }

    private String spoiled(String text) {
        String signs = "0123456789:;-abcdefghijk";
        StringBuilder other = new StringBuilder(text);
        int at = below(text.length());
        char sign = below(12) == 0 ? (char) below(256) : signs.charAt(below(signs.length()));
        int kind = below(4);
        if (kind == 0) other.setCharAt(at, sign);
        if (kind == 1) other.deleteCharAt(at);
        if (kind == 2) other.insert(at, sign);
        if (kind == 3) other.setLength(at);
        return other.toString();
    }

    private void tablature() {
        int length = (int) call("text", -1);
        call("text", about(length < 0 ? 3 : length));
        int kind = below(6);
        if (kind == 0 && length > 0) {
            StringBuilder tab = new StringBuilder();
            for (int i = 0; i < length; i++) tab.append((char) call("text", i));
            call("wipe");
            type(tab.toString());
        } else if (kind == 1) {
            call("wipe");
            type(someText());
        } else if (kind == 2) {
            call("wipe");
            type(spoiled(someText()));
        } else if (kind == 3) {
            type(someText());
        } else {
            call("type", about(256));
        }
        call("flaw");
        if (below(2) == 0) {
            call("back");
            look();
        }
    }

    private int anInt() {
        return below(4) == 0 ? by.nextInt() : below(300) - 100;
    }

    private void sheets() {
        switch (below(8)) {
            case 0: call("sheet", about(4), about(3), below(8) == 0 ? about(49) : below(30)); break;
            case 1:
                if (below(4) == 0) call("lose", about(4));
                break;
            case 2:
            case 3: call("put", about(4), about(3), about(12), anInt()); break;
            case 4: call("get", about(4), about(12)); break;
            case 5: call("copy", about(4), about(12), about(4), about(12), about(8)); break;
            case 6: call("write", about(4)); break;
            default: readSome(); break;
        }
    }

    private void readSome() {
        int s = below(4);
        int form = below(2);
        call("sheet", s, form, 3 + below(9));
        for (int i = 0; i < 9; i += 3) {
            call("put", s, form, i, about(60));
            call("put", s, form, i + 1, lowest + about(highest - lowest + 1));
            call("put", s, form, i + 2, 1 + about(40));
        }
        call(notes() + 4 > mostNotes ? "get" : "read", s, 0);
    }

    private void anything() {
        int kind = below(20);
        if (kind < 6) tell();
        else if (kind < 8) look();
        else if (kind < 11) judge();
        else if (kind < 15) layings();
        else if (kind < 16) change();
        else if (kind < 18) tablature();
        else sheets();
    }

    private void end() {
        for (int s = 0; s < 4; s++) {
            for (int i = 0; i < 12; i++) call("get", s, i);
        }
        call("digest");
        call("count", 8);
    }

    private void go() {
        // The longest of the acts takes some ninety calls, and the end sixty.
        while (calls < MOST_CALLS - 210) anything();
        end();
    }

    private static void ordinary(int seed) {
        AgainstPlainTest test = new AgainstPlainTest("ordinary", seed);
        test.mostNotes = 14;
        test.lowest = 0;
        test.highest = 28;
        test.go();
    }

    /** Courses so near to each other that notes have many places, bars and crowded hands. */
    private static void crowded(int seed) {
        AgainstPlainTest test = new AgainstPlainTest("crowded", seed);
        test.mostNotes = 6 + test.below(9);
        test.lowest = 10;
        test.highest = 20;
        for (int c = 0; c < 5; c++) test.call("tune", c, 8 + test.below(5));
        test.call("set", 0, 5 + test.below(5));
        test.call("set", 1, test.below(7));
        test.call("set", 4, test.below(10));
        test.go();
    }

    /** Many layings by hand of one crowded piece. */
    private static void hands(int seed) {
        AgainstPlainTest test = new AgainstPlainTest("hands", seed);
        for (int c = 0; c < 5; c++) test.call("tune", c, 8 + test.below(4));
        test.call("courses", 3 + test.below(3));
        test.call("set", 4, 1 + test.below(9));
        for (int i = 0; i < 9; i++) test.call("note", test.below(4), 9 + test.below(7), 1 + test.below(4));
        while (test.calls < MOST_CALLS - 40) {
            for (int n = 0; n < test.notes(); n++) test.call("lay", n, test.below(5));
            for (int k = 0; k < test.chords(); k++) {
                for (int what = 3; what <= 6; what++) test.call("chord", k, what);
            }
            test.call("wrong");
            test.call("cost");
        }
    }

    /** All notes that there may be, in one search each. */
    private static void longest(int seed) {
        AgainstPlainTest test = new AgainstPlainTest("long", seed);
        for (int c = 0; c < 5; c++) test.call("tune", c, 20 - 4 * c + test.below(4));
        for (int what = 2; what <= 4; what++) test.call("set", what, test.below(10));
        for (int i = 0; i < 30; i++) test.call("note", test.below(30), 6 + test.below(20), 1 + test.below(4));
        test.call("mend");
        for (int n = 0; n < 14; n++) test.call("info", n, 5);
        test.call("digest");
    }

    /** So many layings of like cost that the order of courses tells which is the best. */
    private static void likeOnes(int seed) {
        AgainstPlainTest test = new AgainstPlainTest("like", seed);
        for (int c = 0; c < 5; c++) test.call("tune", c, 10 + test.below(3));
        test.call("courses", 3 + test.below(3));
        test.call("set", 1, 3 + test.below(4));
        for (int what = 2; what <= 4; what++) test.call("set", what, test.below(2));
        for (int i = 0; i < 20; i++) test.call("note", test.below(24), 12 + test.below(6), 1 + test.below(4));
        test.call("mend");
        for (int n = 0; n < 14; n++) test.call("info", n, 5);
        test.call("text", LuteTabs.NONE);
        test.call("digest");
    }

    public static void main(String[] args) {
        int times = args.length > 0 ? Integer.parseInt(args[0]) : 40;
        int from = args.length > 1 ? Integer.parseInt(args[1]) : 0;
        for (int seed = from; seed < from + times; seed++) {
            ordinary(seed);
            crowded(seed);
            longest(seed);
            likeOnes(seed);
            hands(seed);
        }
        due.end();
    }
}
