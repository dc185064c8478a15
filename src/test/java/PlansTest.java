import java.util.Random;

/** Promises 17 to 20: choose, clear, plan, noon; plans and orders are also sought in another, slower way. */
public final class PlansTest {
    public static void main(String[] args) {
        choosing();
        planEdges();
        firstOfSeveral();
        noonEdges();
        Random random = new Random(17);
        for (int run = 0; run < 300; run++) {
            plansSoughtOtherwise(random);
        }
        Due.end("PlansTest");
    }

    private static void choosing() {
        PhoneBench x = new PhoneBench();
        x.model(1000, 0);
        Due.is("choose(0)", x.choose(0), Due.BAD);
        for (int i = 0; i < 9; i++) {
            x.phone(0, 0, 255);
        }
        Due.is("choose(-1)", x.choose(-1), Due.BAD);
        Due.is("choose(9)", x.choose(9), Due.BAD);
        x.strip(8);
        Due.is("not IN", x.choose(8), Due.NO);
        for (int i = 0; i < 6; i++) {
            Due.is("choose", x.choose(6 - i), i + 1);
        }
        Due.is("NO stands ahead of FULL", x.choose(3), Due.NO);
        Due.is("NO stands ahead of FULL", x.choose(8), Due.NO);
        Due.is("BAD stands ahead", x.choose(9), Due.BAD);
        Due.is("FULL", x.choose(0), Due.FULL);
        Due.is("count(9)", x.count(9), 6);
        Due.is("clear()", x.clear(), 6);
        Due.is("clear()", x.clear(), 0);
        Due.is("choose(3) again", x.choose(3), 1);
    }

    private static void planEdges() {
        PhoneBench x = new PhoneBench();
        x.model(2000, 1);
        Due.is("plan(-1) of none", x.plan(-1), 0);
        Due.is("plan(0) of none", x.plan(0), Due.BAD);
        Due.is("noon(0) of none", x.noon(0), Due.BAD);
        x.phone(0, 0, 254);
        x.phone(5, 0, 1);
        x.choose(1);
        x.choose(0);
        Due.is("plan(-2)", x.plan(-2), Due.BAD);
        Due.is("plan(2)", x.plan(2), Due.BAD);
        Due.is("plan(LEAST)", x.plan(Due.LEAST), Due.BAD);
        // 1 is stripped: 3; 0 gets its battery, which is paired: 200 - 20 - 5
        String was = Due.state(x);
        Due.is("plan(-1)", x.plan(-1), 178);
        Due.is("plan(0)", x.plan(0), 2);
        Due.is("plan(1)", x.plan(1), 1);
        Due.holds("nothing changes", was.equals(Due.state(x)));
        x.turns(0, 5);
        Due.is("locked ones are never mended", x.plan(-1), 6);
        Due.is("plan(1)", x.plan(1), 2);
        x.turns(0, 0);
        x.strip(1);
        Due.is("those not IN are left", x.plan(0), 0);
        Due.is("the other", x.plan(1), 1);
        Due.is("plan(-1)", x.plan(-1), 175);
    }

    private static void firstOfSeveral() {
        PhoneBench x = new PhoneBench();
        x.model(80, 0);
        x.phone(0, 0, 255);
        x.phone(0, 0, 255);
        x.choose(0);
        x.choose(1);
        // WORTH 8 less 5 is 3 as SCRAP is: MENDED comes ahead of STRIPPED
        Due.is("plan(-1)", x.plan(-1), 6);
        Due.is("plan(0)", x.plan(0), 1);
        Due.is("plan(1)", x.plan(1), 1);
        Due.text(x, "scrap 0");
        x.turns(0, 5);
        Due.is("left comes ahead of stripped for 0", x.plan(0), 0);
        Due.is("plan(1)", x.plan(1), 1);
        x.turns(1, 5);
        Due.is("all are left", x.plan(-1), 0);
        Due.is("plan(1)", x.plan(1), 0);
        PhoneBench y = new PhoneBench();
        y.model(1000, 0);
        y.stock(0, 0, 1);
        y.phone(0, 0, 254);
        y.phone(0, 0, 254);
        Due.text(y, "scrap 0");
        y.choose(1);
        y.choose(0);
        // one battery for two alike: left, MENDED stands ahead of MENDED, left
        Due.is("plan(0)", y.plan(0), 0);
        Due.is("plan(1)", y.plan(1), 1);
        Due.is("plan(-1)", y.plan(-1), 95);
    }

    private static void noonEdges() {
        PhoneBench x = new PhoneBench();
        x.model(1000, 0);
        x.phone(5, 0, 255);
        x.phone(0, 0, 255);
        x.phone(2, 0, 255);
        x.choose(0);
        x.choose(2);
        x.choose(1);
        Due.is("noon(3)", x.noon(3), Due.BAD);
        Due.is("noon(-2)", x.noon(-2), Due.BAD);
        Due.is("none late: as told", x.noon(0), 0);
        Due.is("none late: as told", x.noon(1), 2);
        Due.is("none late: as told", x.noon(2), 1);
        Due.is("noon(-1)", x.noon(-1), 0);
        for (int i = 0; i < 3; i++) {
            x.promise(i, 0);
        }
        // the shortest first: 5 + 15 + 114
        Due.is("noon(-1)", x.noon(-1), 134);
        Due.is("noon(0)", x.noon(0), 1);
        Due.is("noon(1)", x.noon(1), 2);
        Due.is("noon(2)", x.noon(2), 0);
        x.strip(1);
        Due.is("IN or not any more", x.noon(0), 1);
    }

    private static void plansSoughtOtherwise(Random random) {
        PhoneBench x = new PhoneBench();
        x.model(10 + random.nextInt(random.nextBoolean() ? 300 : 5000), random.nextInt(256));
        x.model(10 + random.nextInt(2000), random.nextInt(256));
        x.common(random.nextInt(4) == 0 ? random.nextInt(256) : 0);
        for (int i = 0; i < 16; i++) {
            x.stock(random.nextInt(2), random.nextInt(8), random.nextInt(3));
        }
        if (random.nextBoolean()) {
            Due.text(x, random.nextBoolean() ? "scrap g*4-k" : "scrap d+20/(k+1)");
        }
        int phones = 1 + random.nextInt(8);
        for (int i = 0; i < phones; i++) {
            int good = random.nextInt(256) | random.nextInt(256) | (random.nextBoolean() ? 255 & ~(1 << random.nextInt(8)) : 0);
            x.phone(random.nextInt(6), 1000 * random.nextInt(2) + random.nextInt(1000), good);
            x.promise(i, random.nextInt(random.nextBoolean() ? 30 : 200));
        }
        for (int i = 0; i < 8; i++) {
            x.choose(random.nextInt(phones));
        }
        if (random.nextInt(3) == 0) {
            x.strip(random.nextInt(phones));
        }
        x.run(1 + random.nextInt(9));
        bestByDoing(x);
        soonestByTrying(x);
    }

    private static int[] chosenOf(PhoneBench x) {
        int[] chosen = new int[x.count(9)];
        int[] promised = new int[16];
        for (int i = 0; i < x.count(1); i++) {
            promised[i] = x.told(i, 12);
            x.promise(i, 999);
        }
        // with no one late the order is that told
        for (int i = 0; i < chosen.length; i++) {
            chosen[i] = x.noon(i);
        }
        for (int i = 0; i < x.count(1); i++) {
            x.promise(i, promised[i]);
        }
        return chosen;
    }

    /** Each plan is carried out for real, from an image: what comes to the till and the worth of the mended. */
    private static void bestByDoing(PhoneBench x) {
        int[] chosen = chosenOf(x);
        int n = Math.min(chosen.length, 5);
        if (n < chosen.length) {
            x.clear();
            for (int i = 0; i < n; i++) {
                x.choose(chosen[i]);
            }
            n = x.count(9);
            chosen = chosenOf(x);
        }
        int most = Integer.MIN_VALUE;
        int[] best = new int[n];
        int ways = (int) Math.pow(3, n);
        x.keep();
        for (int way = 0; way < ways; way++) {
            int[] acts = new int[n];
            for (int i = n - 1, left = way; i >= 0; i--, left /= 3) {
                acts[i] = left % 3;
            }
            x.back();
            int had = did(x, chosen, acts);
            if (had > most) {
                most = had;
                best = acts;
            }
        }
        x.back();
        Due.is("plan(-1)", x.plan(-1), most);
        for (int i = 0; i < n; i++) {
            Due.is("plan(" + i + ")", x.plan(i), best[i]);
        }
    }

    private static int did(PhoneBench x, int[] chosen, int[] acts) {
        int till = x.count(10);
        int worth = 0;
        for (int i = 0; i < acts.length; i++) {
            if (acts[i] == 2 && x.strip(chosen[i]) < 0) {
                return Integer.MIN_VALUE;
            }
        }
        for (int i = 0; i < acts.length; i++) {
            if (acts[i] == 1) {
                if (x.mend(chosen[i], 0) < 0) {
                    return Integer.MIN_VALUE;
                }
                worth += x.told(chosen[i], 11);
            }
        }
        return x.count(10) - till + worth;
    }

    private static int least;
    private static int[] soonest;

    private static void soonestByTrying(PhoneBench x) {
        int[] chosen = chosenOf(x);
        least = Integer.MAX_VALUE;
        soonest = new int[chosen.length];
        tryOrder(x, chosen, new int[chosen.length], 0, 0, 0);
        Due.is("noon(-1)", x.noon(-1), least);
        for (int i = 0; i < chosen.length; i++) {
            Due.is("noon(" + i + ")", x.noon(i), soonest[i]);
        }
    }

    private static void tryOrder(PhoneBench x, int[] chosen, int[] order, int at, int minute, int late) {
        if (at == chosen.length) {
            if (late < least) {
                least = late;
                soonest = order.clone();
            }
            return;
        }
        for (int phone : chosen) {
            boolean used = false;
            for (int i = 0; i < at; i++) {
                used |= order[i] == phone;
            }
            if (!used) {
                order[at] = phone;
                int end = minute + x.told(phone, 8);
                tryOrder(x, chosen, order, at + 1, end, late + Math.max(0, end - x.told(phone, 12)));
            }
        }
    }
}
