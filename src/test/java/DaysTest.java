import java.util.Random;

/** Promises 32 to 35: run, rate, blamed, seed. */
public final class DaysTest {
    public static void main(String[] args) {
        days();
        draws();
        rates();
        Random random = new Random(32);
        for (int run = 0; run < 200; run++) {
            dayByDay(random);
        }
        Due.end("DaysTest");
    }

    private static void days() {
        PhoneBench x = new PhoneBench();
        Due.is("run(0)", x.run(0), Due.BAD);
        Due.is("run(61)", x.run(61), Due.BAD);
        Due.is("run(-1)", x.run(-1), Due.BAD);
        Due.is("run(MOST)", x.run(Due.MOST), Due.BAD);
        for (int i = 0; i < 16; i++) {
            Due.is("run(60)", x.run(60), 0);
        }
        Due.is("run(40)", x.run(40), Due.FULL);
        Due.is("count(11)", x.count(11), 960);
        Due.is("run(39)", x.run(39), 0);
        Due.is("count(11)", x.count(11), 999);
        Due.is("run(1)", x.run(1), Due.FULL);
        Due.is("BAD stands ahead of FULL", x.run(0), Due.BAD);
        Due.is("z without sold ones", x.count(14), 1);
    }

    private static void sold(PhoneBench x, int cycles, int bench) {
        int phone = x.phone(0, cycles, 255);
        x.mend(phone, bench);
        x.flag(phone, 0, true);
        Due.holds("sold", x.sell(phone) >= 0);
    }

    private static void draws() {
        PhoneBench x = new PhoneBench();
        x.model(1000, 0);
        sold(x, 999, 0);
        Due.is("seed(1)", x.seed(1), 1);
        // z = 1103515245 + 12345 = 1103527590; >>> 8 is 4310654; rest 54 is below 60 - 1 (SPAN 1: FORESEEN)
        Due.is("run(1)", x.run(1), 1);
        Due.is("z", x.count(14), 1103527590);
        Due.is("told(0, 14)", x.told(0, 14), 1);
        Due.is("SOLD all the same", x.told(0, 5), 3);
        Due.is("once each, no draw any more", x.run(9), 0);
        Due.is("z", x.count(14), 1103527590);
        Due.is("seed(LEAST)", x.seed(Due.LEAST), 1103527590);
        Due.is("seed(0)", x.seed(0), Due.LEAST);

        PhoneBench y = new PhoneBench();
        y.model(1000, 0);
        sold(y, 999, 0);
        Due.text(y, "back 0");
        Due.is("not FORESEEN: 54 is not below 29", y.run(1), 0);
        Due.is("a draw all the same", y.count(14), 1103527590);

        PhoneBench w = new PhoneBench();
        w.model(1000, 0);
        sold(w, 0, 0);
        w.phone(0, 990, 255);
        w.mend(1, 0);
        w.seed(-1);
        Due.is("long SPAN never", w.run(1), 0);
        Due.is("one draw, of the sold one alone", w.count(14), -1103515245 + 12345);
    }

    private static void rates() {
        PhoneBench x = new PhoneBench();
        x.model(1000, 0);
        Due.is("rate(-1)", x.rate(-1), Due.BAD);
        Due.is("rate(4)", x.rate(4), Due.BAD);
        for (int i = 0; i < 3; i++) {
            sold(x, i == 0 ? 999 : 0, 2);
        }
        sold(x, 0, 1);
        x.phone(0, 999, 255);
        x.mend(4, 0);
        Due.is("rate(0), none sold", x.rate(0), Due.NONE);
        Due.is("rate(1)", x.rate(1), 0);
        Due.is("rate(3)", x.rate(3), Due.NONE);
        Due.is("of several the least", x.blamed(), 1);
        x.run(60);
        Due.is("told(0, 14)", x.told(0, 14), 1);
        Due.is("rate(2)", x.rate(2), 33);
        Due.is("blamed()", x.blamed(), 2);
        Due.is("count(5)", x.count(5), 1);
    }

    /** The days once more, phone by phone, with draws of the test's own. */
    private static void dayByDay(Random random) {
        PhoneBench x = new PhoneBench();
        x.model(10 + random.nextInt(9990), random.nextInt(256));
        for (int i = 0; i < 16; i++) {
            int phone = x.phone(random.nextInt(5), random.nextInt(3) == 0 ? random.nextInt(1000) : 700 + random.nextInt(300), 255);
            x.mend(phone, random.nextInt(4));
            x.flag(phone, 0, random.nextInt(8) > 0);
            x.sell(phone);
        }
        if (random.nextBoolean()) {
            Due.text(x, random.nextBoolean() ? "back b=2" : "back s<9|f");
        }
        int z = random.nextInt();
        x.seed(z);
        for (int turn = 0; turn < 8; turn++) {
            int n = 1 + random.nextInt(4);
            boolean[] gone = new boolean[16];
            int came = 0;
            for (int day = 0; day < n; day++) {
                for (int i = 0; i < 16; i++) {
                    if (x.told(i, 5) == 3 && x.told(i, 14) == 0 && !gone[i]) {
                        z = z * 1103515245 + 12345;
                        gone[i] = (z >>> 8) % 100 < (x.told(i, 15) == 1 ? 60 : 30) - x.told(i, 9);
                        came += gone[i] ? 1 : 0;
                    }
                }
            }
            int before = x.count(5);
            Due.is("run(" + n + ")", x.run(n), came);
            Due.is("came back", x.count(5), before + came);
            Due.is("z", x.count(14), z);
            for (int i = 0; i < 16; i++) {
                Due.holds("came back", !gone[i] || x.told(i, 14) == 1);
            }
            ratesAgree(x);
        }
    }

    private static void ratesAgree(PhoneBench x) {
        int worst = Due.NONE;
        int most = -1;
        for (int bench = 0; bench < 4; bench++) {
            int sold = 0;
            int back = 0;
            for (int i = 0; i < 16; i++) {
                boolean its = x.told(i, 13) == bench && x.told(i, 5) == 3;
                sold += its ? 1 : 0;
                back += its && x.told(i, 14) == 1 ? 1 : 0;
            }
            Due.is("rate", x.rate(bench), sold == 0 ? Due.NONE : 100 * back / sold);
            if (sold > 0 && 100 * back / sold > most) {
                most = 100 * back / sold;
                worst = bench;
            }
        }
        Due.is("blamed", x.blamed(), worst);
    }
}
