import java.lang.management.ManagementFactory;
import java.util.Random;

/** Calls with any numbers in any state: none throws, none asks for much room, and the same calls give the same answers. */
public final class WildTest {
    private static final int RUNS = Integer.getInteger("runs", 1500);
    private static final String[] WORDS = {"burns", "flares", "fines", "bars", "stoke", "damp", "buy", "pass", "if", "by", "times", "not", "and", "or",
        "house", "note", "street", "fire", "coal", "hour", "day", "mood", "other", "fines", "done", "met", "sounds", "(", ")", "[", "]", "+", "-", "*",
        "/", "%", "<", ">", "=", ";", ";", "0", "1", "2", "7", "20", "1000", "1001", "99999999999"};
    private static int wrong = 0;

    public static void main(String[] args) {
        for (int run = 0; run < RUNS && wrong < 10; run++) {
            wildRun(run);
        }
        room();
        System.out.println(wrong == 0 ? "WildTest: " + RUNS + " runs end" : "WildTest: " + wrong + " wrong");
        if (wrong != 0) {
            System.exit(1);
        }
    }

    private static void wildRun(int run) {
        SmokeTune x = new SmokeTune();
        SmokeTune y = new SmokeTune();
        Random random = new Random(run);
        for (int i = 0; i < 512; i++) {
            int which = random.nextInt(36);
            int[] a = new int[5];
            for (int k = 0; k < 5; k++) {
                a[k] = any(random);
            }
            if (which == 5) {
                fillWithSigns(a, random);
            }
            long got = 0;
            long again = 1;
            try {
                got = call(x, which, a);
                again = call(y, which, a);
            } catch (RuntimeException | StackOverflowError e) {
                wrong++;
                System.out.println("run " + run + ", call " + i + " of kind " + which + " threw " + e);
                return;
            }
            if (got != again) {
                wrong++;
                System.out.println("run " + run + ", call " + i + " of kind " + which + " answered " + got + " and " + again);
                return;
            }
        }
    }

    private static int any(Random random) {
        int[] edges = {Integer.MIN_VALUE, Integer.MAX_VALUE, -1, 0, 1, 999, 1000, 128, 1 << 20};
        int kind = random.nextInt(20);
        return kind == 0 ? edges[random.nextInt(edges.length)] : kind == 1 ? random.nextInt() : random.nextInt(kind < 12 ? 8 : 30);
    }

    private static void fillWithSigns(int[] five, Random random) {
        StringBuilder s = new StringBuilder();
        while (s.length() < 20) {
            s.append(random.nextInt(60) == 0 ? "" + (char) random.nextInt(256) : WORDS[random.nextInt(WORDS.length)]).append(random.nextInt(3) > 0 ? " " : "");
        }
        for (int k = 0; k < 20; k++) {
            five[k / 4] = five[k / 4] << 8 | s.charAt(k);
        }
    }

    private static long call(SmokeTune x, int which, int[] a) {
        switch (which) {
            case 0: return x.house(a[0] % 7, a[1] % 4, a[2], a[3], a[4]);
            case 1: return x.of(a[0], a[1]);
            case 2: return x.score(a[0], a[1]);
            case 3: return x.chord(a[0]);
            case 4: return x.terms(a[0], a[1]);
            case 5: return x.feed(a[0], a[1], a[2], a[3], a[4]);
            case 6: return x.end(a[0]);
            case 7: return x.row();
            case 8: return x.ash();
            case 9: return x.law();
            case 10: return x.orders();
            case 11: return x.fault();
            case 12: return x.stopped();
            case 13: return x.force(a[0]);
            case 14: return x.discord();
            case 15: return x.sounds(a[0]);
            case 16: return x.stoke(a[0]);
            case 17: return x.damp(a[0], a[1]);
            case 18: return x.buy(a[0], a[1]);
            case 19: return x.pass();
            case 20: return x.undo();
            case 21: return x.least(a[0], a[1], a[2], a[3]);
            case 22: return x.rings(a[0]);
            case 23: return x.tune(a[0], a[1]);
            case 24: return x.hear(a[0]);
            case 25: return x.forget();
            case 26: return x.hill(a[0]);
            case 27: return x.ask(a[0]);
            case 28: return x.chance(a[0]);
            case 29: return x.compare(a[0], a[1]);
            case 30: return x.days(a[0], a[1]);
            case 31: return x.drawn(a[0], a[1]);
            case 32: return x.image(a[0]);
            case 33: return x.back(a[0]);
            case 34: return x.count(a[0]);
            default: return x.status();
        }
    }

    /** A long text, as law and as orders, over and over: the room of one run is some 7.3 million fields. */
    private static void room() {
        com.sun.management.ThreadMXBean bean = (com.sun.management.ThreadMXBean) ManagementFactory.getThreadMXBean();
        long thread = Thread.currentThread().getId();
        SmokeTune x = new SmokeTune();
        longRun(x);
        long before = bean.getThreadAllocatedBytes(thread);
        x = new SmokeTune();
        longRun(x);
        long bytes = bean.getThreadAllocatedBytes(thread) - before;
        if (bytes > 2_000_000L) {
            wrong++;
            System.out.println("a run asked for " + bytes + " bytes");
        }
    }

    private static void longRun(SmokeTune x) {
        x.image(0);
        for (int h = 0; h < 8; h++) {
            x.house(h % 7, 0, 9, h, h);
        }
        for (int i = 0; i < 60; i++) {
            x.feed(0x62757273, 0, 0, 0, 0);
            x.end(0);
            // burns 1+1+1 .. of twenty bytes at a time
            x.feed(0x6275726E, 0x7320312B, 0x312B312B, 0x312B312B, 0x312B312B);
            x.feed(0x312B312B, 0x312B312B, 0x312B312B, 0x312B312B, 0x312B3120);
            if (x.law() < 0) {
                x.back(0);
            }
            x.days(i, 100);
            x.least(0, 12, 4095, -1);
            x.compare(-1, 60);
        }
    }
}
