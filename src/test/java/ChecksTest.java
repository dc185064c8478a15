import java.util.Random;

/** Promises 26 to 31: weigh, check, says, anew, next, deep. */
public final class ChecksTest {
    public static void main(String[] args) {
        weights();
        checks();
        saying();
        nextOnes();
        depths();
        Random random = new Random(26);
        for (int run = 0; run < 300; run++) {
            soughtOtherwise(random);
        }
        Due.end("ChecksTest");
    }

    private static void weights() {
        PhoneBench x = new PhoneBench();
        Due.is("weigh(7, 99)", x.weigh(7, 99), 1);
        Due.is("weigh(7, 0)", x.weigh(7, 0), 99);
        Due.is("weigh(7, 100)", x.weigh(7, 100), Due.BAD);
        Due.is("weigh(7, -1)", x.weigh(7, -1), Due.BAD);
        Due.is("weigh(8, 1)", x.weigh(8, 1), Due.BAD);
        Due.is("weigh(-1, 1)", x.weigh(-1, 1), Due.BAD);
        Due.is("weigh(7, 5)", x.weigh(7, 5), 0);
    }

    private static void checks() {
        PhoneBench x = new PhoneBench();
        Due.is("check(0)", x.check(0), Due.BAD);
        Due.is("check(255)", x.check(255), Due.BAD);
        Due.is("check(-1)", x.check(-1), Due.BAD);
        for (int i = 0; i < 8; i++) {
            Due.is("check", x.check(i == 7 ? 254 : i + 1), i);
        }
        Due.is("BAD stands ahead of FULL", x.check(255), Due.BAD);
        Due.is("the ninth", x.check(1), Due.FULL);
        Due.is("count(7)", x.count(7), 8);
    }

    private static void saying() {
        PhoneBench x = new PhoneBench();
        x.check(0b00001111);
        x.check(0b00110011);
        Due.is("says(2)", x.says(2, true), Due.BAD);
        Due.is("says(-1)", x.says(-1, true), Due.BAD);
        Due.is("says(0, false)", x.says(0, false), 0b11110000);
        Due.is("says(0, true)", x.says(0, true), Due.NO);
        Due.is("count(8)", x.count(8), 0b11110000);
        Due.is("says(1, true)", x.says(1, true), 0b00110000);
        Due.is("says(1, true) again", x.says(1, true), 0b00110000);
        Due.is("anew()", x.anew(), 0b00110000);
        Due.is("anew()", x.anew(), 255);
        Due.is("count(8)", x.count(8), 255);
    }

    private static void nextOnes() {
        PhoneBench x = new PhoneBench();
        Due.is("no checks", x.next(), Due.NONE);
        x.check(0b00000001);
        Due.is("the only one", x.next(), 0);
        x.check(0b00000111);
        x.check(0b00111000);
        Due.is("of several the least", x.next(), 1);
        x.check(0b11110000);
        Due.is("the evenest", x.next(), 3);
        x.weigh(0, 50);
        // sides 50 and 7: 50; 52 and 5; 3 and 54; 4 and 53
        Due.is("by weights", x.next(), 0);
        x.says(0, true);
        Due.is("one is open", x.next(), Due.NONE);
        x.anew();
        x.says(0, false);
        // open: 1 .. 7; sides 0 and 7; 2 and 5; 3 and 4; 4 and 3
        Due.is("of those open alone", x.next(), 2);
        for (int i = 0; i < 8; i++) {
            x.weigh(i, 0);
        }
        Due.is("all weigh nothing", x.next(), 0);
    }

    private static void depths() {
        PhoneBench x = new PhoneBench();
        Due.is("no checks", x.deep(), Due.NONE);
        int[] yes = {0b00001111, 0b00110011, 0b01010101};
        x.check(yes[0]);
        Due.is("one check", x.deep(), Due.NONE);
        x.check(yes[1]);
        x.check(yes[2]);
        Due.is("halves", x.deep(), 3);
        x.says(0, true);
        Due.is("two left", x.deep(), 2);
        x.says(1, true);
        Due.is("one left", x.deep(), 1);
        x.says(2, false);
        Due.is("none left", x.deep(), 0);
        PhoneBench y = new PhoneBench();
        for (int i = 0; i < 7; i++) {
            y.check(1 << i);
        }
        Due.is("one by one", y.deep(), 7);
        y.check(0b00001111);
        Due.is("halves and one by one", y.deep(), 4);
    }

    private static void soughtOtherwise(Random random) {
        PhoneBench x = new PhoneBench();
        int[] weight = new int[8];
        for (int i = 0; i < 8; i++) {
            weight[i] = random.nextInt(random.nextBoolean() ? 3 : 100);
            x.weigh(i, weight[i]);
        }
        int[] yes = new int[random.nextInt(9)];
        for (int i = 0; i < yes.length; i++) {
            yes[i] = 1 + random.nextInt(254);
            x.check(yes[i]);
        }
        for (int turn = 0; turn < 4; turn++) {
            int open = x.count(8);
            Due.is("next()", x.next(), evenest(yes, weight, open));
            int depth = -1;
            for (int d = 0; d <= 7 && depth < 0; d++) {
                depth = isEnough(yes, open, d) ? d : -1;
            }
            Due.is("deep()", x.deep(), depth < 0 ? Due.NONE : depth);
            if (yes.length > 0) {
                x.says(random.nextInt(yes.length), random.nextBoolean());
            }
        }
    }

    private static int evenest(int[] yes, int[] weight, int open) {
        int best = Due.NONE;
        int least = Integer.MAX_VALUE;
        for (int i = 0; i < yes.length && Integer.bitCount(open) > 1; i++) {
            int[] side = new int[2];
            for (int c = 0; c < 8; c++) {
                if ((open & 1 << c) != 0) {
                    side[(yes[i] & 1 << c) != 0 ? 0 : 1] += weight[c];
                }
            }
            if (Math.max(side[0], side[1]) < least) {
                least = Math.max(side[0], side[1]);
                best = i;
            }
        }
        return best;
    }

    private static boolean isEnough(int[] yes, int open, int depth) {
        if (Integer.bitCount(open) <= 1) {
            return true;
        }
        for (int y : yes) {
            int a = open & y;
            int b = open & ~y;
            if (depth > 0 && a != 0 && b != 0 && isEnough(yes, a, depth - 1) && isEnough(yes, b, depth - 1)) {
                return true;
            }
        }
        return false;
    }
}
