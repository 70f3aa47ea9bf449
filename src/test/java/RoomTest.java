import java.lang.management.ManagementFactory;
import java.util.Random;

/** No call fails, whatever it is given; none makes objects; the dearest searches end soon. */
public final class RoomTest {
    private static final Due due = new Due();
    private static final int[] EDGES = {Integer.MIN_VALUE, Integer.MAX_VALUE, -13, -12, -2, -1, 48, 49, 61, 200, 255, 256};

    private static int any(Random by) {
        int kind = by.nextInt(6);
        return kind == 0 ? EDGES[by.nextInt(EDGES.length)] : kind == 1 ? by.nextInt(50) : by.nextInt(6);
    }

    private static long anyCall(LuteTabs x, Random by) {
        int a = any(by);
        int b = any(by);
        int c = any(by);
        switch (by.nextInt(36)) {
            case 0: return x.courses(a);
            case 1: return x.tune(a, b);
            case 2: return x.set(a, b);
            case 3: return x.note(a, b, c);
            case 4: return x.gone(a);
            case 5: return by.nextInt(9) == 0 ? x.clear() : x.note(by.nextInt(9), by.nextInt(30), 1 + by.nextInt(9));
            case 6: return x.read(a);
            case 7: return x.info(a, b);
            case 8: return x.course(a, b);
            case 9: return x.least();
            case 10: return x.fault();
            case 11: return x.mend();
            case 12: return x.lay(a, b);
            case 13: return x.wrong();
            case 14: return x.cost();
            case 15: return x.chord(a, b);
            case 16: return x.without(a);
            case 17: return x.key(a);
            case 18: return x.easiest(a);
            case 19: return x.keep(a);
            case 20: return x.go(a);
            case 21: return x.differ(a);
            case 22: return x.text(a);
            case 23: return x.type(a);
            case 24: return x.wipe();
            case 25: return x.flaw();
            case 26: return x.back();
            case 27: return x.sheet(a, b, c);
            case 28: return x.lose(a);
            case 29: return x.put(a, b, c, any(by));
            case 30: return x.get(a, b);
            case 31: return x.copy(a, b, c, any(by), any(by));
            case 32: return x.write(a);
            case 33: return x.count(a);
            case 34: return x.digest();
            default: return x.note(by.nextInt(9), by.nextInt(30), 1 + by.nextInt(9));
        }
    }

    private static void anyCalls() {
        for (int seed = 0; seed < 2000; seed++) {
            Random by = new Random(seed);
            LuteTabs x = new LuteTabs();
            for (int i = 0; i < 512; i++) anyCall(x, by);
        }
        due.holds("no call failed", true);
    }

    private static long bytesMade() {
        return ((com.sun.management.ThreadMXBean) ManagementFactory.getThreadMXBean())
            .getThreadAllocatedBytes(Thread.currentThread().getId());
    }

    /** Fourteen notes that each may be on all courses, five sounding at most chords. */
    private static LuteTabs crowded() {
        LuteTabs x = new LuteTabs();
        for (int c = 0; c < 5; c++) x.tune(c, 20 + c % 2);
        x.set(0, 9);
        x.set(1, 6);
        for (int n = 0; n < 14; n++) x.note(n, n % 5 == 0 ? 21 : 23 + n % 3, 5);
        return x;
    }

    private static void dearestCalls() {
        LuteTabs x = crowded();
        due.holds("there is a laying", x.least() >= 0);
        x.digest();
        long made = bytesMade();
        long before = bytesMade();
        long began = System.nanoTime();
        for (int i = 0; i < 240; i++) {
            x.set(2, i % 10);
            x.digest();
        }
        long took = (System.nanoTime() - began) / 1000000;
        long bytes = bytesMade() - before - (before - made);
        due.holds("240 digests made " + bytes + " bytes", bytes < 4096);
        due.holds("240 digests took " + took + " ms", took < 60000);
        System.out.println("240 of the dearest digests: " + took + " ms, " + bytes + " bytes made");
    }

    public static void main(String[] args) {
        anyCalls();
        dearestCalls();
        due.end();
    }
}
