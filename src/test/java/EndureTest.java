import java.lang.management.ManagementFactory;
import java.util.Random;

/** No call throws, whatever it is given, refused calls change nothing, and calls make little. */
public final class EndureTest {
    private static final int[] EDGES = {
        Integer.MIN_VALUE, Integer.MIN_VALUE + 1, -100000, -101, -15, -2, -1, 0, 1, 2, 3, 4, 5, 6,
        7, 9, 10, 20, 21, 23, 24, 35, 36, 39, 40, 41, 99, 100, 160, 233, 255, 256, 999, 1000,
        Integer.MAX_VALUE - 1, Integer.MAX_VALUE,
    };
    private static final Random RANDOM = new Random(4);

    public static void main(String[] args) {
        for (int run = 0; run < 300; run++) {
            FirstSeen x = filled(run);
            for (int i = 0; i < 400; i++) {
                call(x, i % 33);
            }
        }
        refusalsChangeNothing();
        room();
        Due.end("EndureTest");
    }

    private static FirstSeen filled(int run) {
        FirstSeen x = new FirstSeen();
        for (int i = 0; i < run % 7; i++) {
            x.thing(i, i * 5, 123 + i);
        }
        for (int i = 0; i < run % 6; i++) {
            x.sleeper(i * 6, i * 10 + 1, i);
        }
        for (int i = 0; i < run % 5; i++) {
            x.sheet(i, i % 3, 40 - i);
        }
        return x;
    }

    private static int any() {
        return EDGES[RANDOM.nextInt(EDGES.length)];
    }

    private static long call(FirstSeen x, int which) {
        int a = any(), b = any(), c = any(), d = any(), e = any();
        switch (which) {
            case 0: return x.town(a, b, c);
            case 1: return x.high(a);
            case 2: return x.thing(a, b, c);
            case 3: return x.sleeper(a, b, c);
            case 4: return x.set(a, b, c);
            case 5: return x.told(a, b);
            case 6: return x.where(a, b);
            case 7: return x.feed(a);
            case 8: return x.text();
            case 9: return x.force(a);
            case 10: return x.seen(a, b);
            case 11: return x.has(a);
            case 12: return x.whose(a);
            case 13: return x.left(a);
            case 14: return x.best(a, b, c);
            case 15: return x.turn(a);
            case 16: return x.rest();
            case 17: return x.beds(a);
            case 18: return x.wall(a, b);
            case 19: return x.fell(a);
            case 20: return x.turned(a, b);
            case 21: return x.woke(a, b);
            case 22: return x.judge(a);
            case 23: return x.drawn(a);
            case 24: return x.chance(a, b, c, d);
            case 25: return x.image();
            case 26: return x.back();
            case 27: return x.count(a);
            case 28: return x.sheet(a, b, c);
            case 29: return x.cell(a, b, c);
            case 30: return x.copy(a, b, c, d, e);
            case 31: return x.heights(a, b, c, d);
            default: return x.taken(a, b);
        }
    }

    /** All that can be asked of an object, as one text. */
    private static String state(FirstSeen x) {
        StringBuilder all = new StringBuilder();
        for (int c = 0; c < 36; c++) {
            all.append(x.high(c)).append(' ');
        }
        for (int of = 0; of < 6; of++) {
            for (int what = 0; what < 8; what++) {
                all.append(x.told(of, what)).append(' ');
            }
        }
        for (int what = 0; what < 7; what++) {
            all.append(x.count(what)).append(' ');
        }
        return all.append(x.left(-1)).toString();
    }

    /** Questions and refused changes leave the state; only -12 of heights may change it. */
    private static void refusalsChangeNothing() {
        FirstSeen x = filled(41);
        x.image();
        String before = state(x);
        for (int i = 0; i < 20000; i++) {
            int which = i % 33;
            long got = call(x, which);
            boolean may = got >= -1 || which == 31 && got == -12 || which == 8;
            boolean asks = which == 1 || which == 5 || which == 6 || which >= 10 && which <= 14
                    || which >= 16 && which <= 25 || which == 27 || which == 32;
            String after = state(x);
            Due.holds("call " + which + " answered " + got + " and changed nothing",
                    may && !asks || after.equals(before));
            before = after;
        }
    }

    /** One room holds a run's objects: 512 of the dearest calls may not fill much of it. */
    private static void room() {
        com.sun.management.ThreadMXBean bean =
                (com.sun.management.ThreadMXBean) ManagementFactory.getThreadMXBean();
        FirstSeen x = filled(41);
        int answers = 0;
        for (int warm = 0; warm < 2; warm++) {
            answers += dearCalls(x);
        }
        long before = bean.getCurrentThreadAllocatedBytes();
        answers += dearCalls(x);
        long made = bean.getCurrentThreadAllocatedBytes() - before;
        Due.holds("512 calls made " + made + " bytes (" + answers + ")", made < 100000);
    }

    private static int dearCalls(FirstSeen x) {
        int answers = 0;
        for (int i = 0; i < 64; i++) {
            answers += x.rest() + x.beds(1) + x.wall(0, 1) + x.fell(1) + x.best(i % 5, 2, 2)
                    + x.turn(i % 5) + (int) x.chance(i, 20, 0, 0) + x.sheet(0, 2, 40);
        }
        return answers;
    }
}
