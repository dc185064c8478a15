import com.sun.management.ThreadMXBean;
import java.lang.management.ManagementFactory;
import java.util.Random;

/**
 * Calls of all methods with any arguments, in any state: none throws, none that is refused changes anything,
 * the same calls always give the same answers, and they make next to nothing in the one room that they share.
 */
public final class WildCallsTest {
    private static final int METHODS = 48;
    private static final int[] EDGES = {Due.LEAST, Due.MOST, -1, 0, 1, Due.NONE, Due.BAD, 255, 256, 999, 1000, 99, 100, -2};
    private static final String[] TEXTS = {"sale s>9", "scrap g*k-d", "back f|s<30", "sale k<f<d", "scrap (((", "back b=1", "sale 0"};

    public static void main(String[] args) {
        for (int run = 0; run < 400; run++) {
            wild(run);
        }
        room();
        Due.end("WildCallsTest");
    }

    private static void wild(int run) {
        Random random = new Random(run);
        PhoneBench x = new PhoneBench();
        PhoneBench y = new PhoneBench();
        for (int i = 0; i < 512; i++) {
            int method = random.nextInt(METHODS);
            int[] a = new int[5];
            for (int j = 0; j < 5; j++) {
                a[j] = number(random, method, j);
            }
            if (random.nextInt(40) == 0) {
                String s = TEXTS[random.nextInt(TEXTS.length)];
                x.trim(0);
                y.trim(0);
                Due.is("the same answer", Due.text(x, s), Due.text(y, s));
                continue;
            }
            String was = Due.state(x);
            int got = call(x, method, a);
            Due.is("the same answer", got, call(y, method, a));
            boolean tapeOrNumbers = method == 21 || method == 43;
            // count and seed may answer any number, so that a number like that of a refusal is none
            boolean refused = got == Due.BAD || got == Due.NO || got == Due.FULL;
            if (refused && !tapeOrNumbers && method != 33) {
                Due.holds("refused, yet changed by method " + method, was.equals(Due.state(x)));
            }
        }
    }

    private static int number(Random random, int method, int at) {
        if (random.nextInt(12) == 0) {
            return EDGES[random.nextInt(EDGES.length)];
        }
        if (method == 0 && at == 0) {
            return random.nextInt(10010);
        }
        if (method == 5 && at == 1) {
            return random.nextInt(4000);
        }
        boolean bits = method == 0 || method == 5 && at == 2 || method == 2 || method == 25;
        return random.nextInt(bits ? 256 : random.nextInt(4) == 0 ? 120 : 6);
    }

    private static int call(PhoneBench x, int method, int[] a) {
        boolean is = (a[2] & 1) == 1;
        switch (method) {
            case 0: return x.model(a[0], a[1]);
            case 1: return x.asked(a[0], a[1]);
            case 2: return x.common(a[0]);
            case 3: return x.stock(a[0], a[1], a[2]);
            case 4: return x.has(a[0], a[1]);
            case 5: return x.phone(a[0], a[1], a[2]);
            case 6: return x.told(a[0], a[1]);
            case 7: return x.as(a[0], a[1]);
            case 8: return x.turns(a[0], a[1]);
            case 9: return x.flag(a[0], a[1], is);
            case 10: return x.promise(a[0], a[1]);
            case 11: return x.mend(a[0], a[1]);
            case 12: return x.strip(a[0]);
            case 13: return x.sell(a[0]);
            case 14: return x.hold(a[0]);
            case 15: return x.choose(a[0]);
            case 16: return x.clear();
            case 17: return x.plan(a[0]);
            case 18: return x.noon(a[0]);
            case 19: return x.feed(a[0], a[1], a[2]);
            case 20: return x.trim(a[0]);
            case 21: return x.text();
            case 22: return x.textTold(a[0], a[1]);
            case 23: return x.why(a[0]);
            case 24: return x.weigh(a[0], a[1]);
            case 25: return x.check(a[0]);
            case 26: return x.says(a[0], is);
            case 27: return x.anew();
            case 28: return x.next();
            case 29: return x.deep();
            case 30: return x.run(a[0]);
            case 31: return x.rate(a[0]);
            case 32: return x.blamed();
            case 33: return x.seed(a[0]);
            default: return callRows(x, method, a);
        }
    }

    private static int callRows(PhoneBench x, int method, int[] a) {
        switch (method) {
            case 34: return x.sheet(a[0], a[1] - 1, a[2]);
            case 35: return x.mark(a[0], a[1], a[2]);
            case 36: return x.path(a[0], a[1]);
            case 37: return x.fill(a[0], a[1]);
            case 38: return x.copy(a[0], a[1], a[2], a[3], a[4]);
            case 39: return x.lay(a[0], a[1], a[2]);
            case 40: return x.ask(a[0], a[1]);
            case 41: return x.item(a[0], a[1]);
            case 42: return x.tell(a[0]);
            case 43: return x.proves(a[0]);
            case 44: return x.keep();
            case 45: return x.back();
            case 46: return x.count(a[0]);
            default: return x.rest(a[0], a[1]);
        }
    }

    private static PhoneBench busy() {
        PhoneBench x = new PhoneBench();
        x.model(9999, 255);
        Due.text(x, "back s<30|f");
        Due.text(x, "scrap g*k+d");
        for (int i = 0; i < 16; i++) {
            x.phone(i % 5, 700, 255);
            if (i < 6) {
                x.choose(i);
            } else {
                x.mend(i, i % 4);
                x.flag(i, 0, true);
                x.sell(i);
            }
        }
        for (int i = 0; i < 8; i++) {
            x.check(1 + 31 * i);
        }
        x.keep();
        return x;
    }

    /** An object with 512 of the dearest calls stays far below its share of the room (8 bytes an element). */
    private static void room() {
        ThreadMXBean bean = (ThreadMXBean) ManagementFactory.getThreadMXBean();
        busy();
        long start = bean.getCurrentThreadAllocatedBytes();
        PhoneBench made = new PhoneBench();
        long own = bean.getCurrentThreadAllocatedBytes() - start;
        Due.holds("a new object takes " + own + " bytes", own < 20000);
        Due.is("it is new", made.count(1), 0);
        PhoneBench x = busy();
        int[] dear = {17, 18, 21, 29, 30, 34, 36, 38, 39, 43, 44, 45};
        for (int method : dear) {
            int[] a = {method == 43 ? 30 : 0, 1, 0, 0, 0};
            long before = bean.getCurrentThreadAllocatedBytes();
            for (int i = 0; i < 512; i++) {
                call(x, method, a);
            }
            long took = bean.getCurrentThreadAllocatedBytes() - before;
            Due.holds("512 calls of method " + method + " take " + took + " bytes", took < 4096);
        }
    }
}
