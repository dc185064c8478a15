/** Boundary cases of days and returns: promises 32 to 35, and what "Terms" 4 says of them. */
public final class DaysEdgeTest {
    private static final int FACTOR = 1103515245, MORE = 12345;
    private static final int BENCH = 13, RETURNED = 14, FORESEEN = 15;

    public static void main(String[] args) {
        Edges.run(DaysEdgeTest.class);
    }

    /** The z of which a draw makes that one. */
    private static int seedFor(int z) {
        int inverse = FACTOR;
        for (int i = 0; i < 5; i++) {
            inverse *= 2 - FACTOR * inverse;
        }
        int seed = (z - MORE) * inverse;
        Due.is("seed", seed * FACTOR + MORE, z);
        return seed;
    }

    private static PhoneBench sold(int kind, int cycles) {
        PhoneBench x = Scene.withModel(1000, 0);
        Scene.sold(x, kind, cycles, 0);
        return x;
    }

    /** Whether it comes BACK on a DAY on which the rest of the draw by 100 is that. */
    private static int comesBack(PhoneBench x, int rest) {
        x.seed(seedFor(rest << 8));
        int came = x.run(1);
        Due.is("the draw", x.count(14), rest << 8);
        Due.is("told", x.told(0, RETURNED), came);
        Due.is("count(5)", x.count(5), came);
        return came;
    }

    @Edge(at = "Terms 4", says = "BENCHES 0 .. 3: at which a PHONE was MENDED (none, at first).")
    static void benches() {
        for (int bench = 0; bench < 4; bench++) {
            PhoneBench x = Scene.withPhone(0, 0, 255);
            Due.is("none, at first", x.told(0, BENCH), Due.NONE);
            Due.is("mend", x.mend(0, bench), 0);
            Due.is("bench", x.told(0, BENCH), bench);
        }
        Due.is("no bench -1", Scene.withPhone(0, 0, 255).mend(0, -1), Due.BAD);
        Due.is("no bench 4", Scene.withPhone(0, 0, 255).mend(0, 4), Due.BAD);
    }

    @Edge(at = "Terms 4", says = "SOLD ones come BACK (once each; they are SOLD all the same).")
    static void onceEach() {
        PhoneBench x = sold(0, 999);
        Due.is("comes BACK", comesBack(x, 0), 1);
        x.seed(seedFor(0));
        Due.is("once", x.run(60), 0);
        Due.is("no draw", x.count(14), seedFor(0));
        Due.is("count(5)", x.count(5), 1);
        Due.is("SOLD all the same", x.told(0, 5), 3);
        Due.is("count(4)", x.count(4), 1);
        Due.is("not sold again", x.sell(0), Due.NO);
        Due.is("rate", x.rate(0), 100);
        // MENDED ones do not come BACK, nor do others
        PhoneBench y = Scene.withPhone(0, 999, 255);
        y.phone(0, 999, 255);
        y.mend(0, 0);
        y.strip(1);
        y.seed(5);
        Due.is("none is SOLD", y.run(60), 0);
        Due.is("no draw", y.count(14), 5);
    }

    private static PhoneBench soldAndBack(int sold, int back) {
        PhoneBench x = Scene.withModel(1000, 0);
        for (int i = 0; i < sold; i++) {
            Scene.sold(x, 0, i < back ? 999 : 0, 0);
        }
        x.run(60);
        Due.is("came BACK", x.count(5), back);
        return x;
    }

    @Edge(at = "Terms 4", says = "RATE of a bench: 100 times those that came BACK, by SOLD ones of it.")
    static void rates() {
        Due.is("0 of 1", soldAndBack(1, 0).rate(0), 0);
        Due.is("1 of 1", soldAndBack(1, 1).rate(0), 100);
        Due.is("1 of 3, cut", soldAndBack(3, 1).rate(0), 33);
        Due.is("2 of 3, cut", soldAndBack(3, 2).rate(0), 66);
        Due.is("15 of 16, cut", soldAndBack(16, 15).rate(0), 93);
        Due.is("16 of 16", soldAndBack(16, 16).rate(0), 100);
    }

    @Edge(at = "Terms 4", says = "the bench with the greatest RATE (of those with SOLD ones); of several the least.")
    static void greatestRate() {
        PhoneBench x = Scene.withModel(1000, 0);
        Scene.sold(x, 0, 0, 3);
        Due.is("the only one, with RATE 0", x.blamed(), 3);
        Scene.sold(x, 0, 0, 2);
        Due.is("of several the least", x.blamed(), 2);
        Scene.sold(x, 0, 999, 3);
        Due.is("of several the least", x.blamed(), 2);
        x.run(60);
        Due.is("50 against 0", x.blamed(), 3);
        Scene.sold(x, 0, 999, 1);
        Scene.sold(x, 0, 0, 1);
        x.run(60);
        Due.is("rate(1)", x.rate(1), 50);
        Due.is("50 against 50", x.blamed(), 1);
        Scene.sold(x, 0, 999, 0);
        Due.is("0 against 50", x.blamed(), 1);
        x.run(60);
        Due.is("100 against 50", x.blamed(), 0);
    }

    @Edge(at = "Terms 4", says = "FORESEEN to come BACK is one (of any STATE) that has a bench, if back gives what is not 0 (without a TEXT: "
        + "if SPAN is below 20).")
    static void foreseen() {
        // CYCLES 800 .. 809: SPAN 20; 810: 19
        int[][] due = {{0, 809, 0}, {0, 800, 0}, {0, 810, 1}, {0, 999, 1}, {2, 609, 0}, {2, 610, 1}, {3, 509, 0}, {3, 510, 1}};
        for (int[] one : due) {
            PhoneBench x = Scene.withPhone(one[0], one[1], 255);
            Due.is("no bench", x.told(0, FORESEEN), 0);
            x.mend(0, 0);
            Due.is("KIND " + one[0] + ", CYCLES " + one[1] + ", SPAN " + x.told(0, 9), x.told(0, FORESEEN), one[2]);
            Due.text(x, "back 0");
            Due.is("back 0", x.told(0, FORESEEN), 0);
            Due.text(x, "back 0-1");
            Due.is("back -1", x.told(0, FORESEEN), 1);
            Due.text(x, "back b+1");
            Due.is("back 1", x.told(0, FORESEEN), 1);
            Due.text(x, "back b");
            Due.is("back of bench 0", x.told(0, FORESEEN), 0);
        }
        PhoneBench y = Scene.withPhone(0, 999, 255);
        y.phone(0, 999, 255);
        y.phone(0, 999, 255);
        y.phone(0, 999, 255);
        Due.text(y, "back 1");
        y.strip(0);
        Due.is("STRIPPED: no bench", y.told(0, FORESEEN), 0);
        y.flag(1, 1, true);
        y.hold(1);
        Due.is("HELD ahead of a bench", y.told(1, FORESEEN), 0);
        y.mend(2, 0);
        y.flag(2, 1, true);
        y.hold(2);
        Due.is("HELD with a bench", y.told(2, FORESEEN), 1);
        y.mend(3, 0);
        y.flag(3, 0, true);
        y.sell(3);
        Due.is("SOLD", y.told(3, FORESEEN), 1);
    }

    @Edge(at = "Terms 4", says = "z is told (1 at first). A draw: z becomes z * 1103515245 + 12345 (an int); it gives z >>> 8.")
    static void draws() {
        PhoneBench x = sold(0, 0);
        Due.is("1 at first", x.count(14), 1);
        x.run(1);
        Due.is("z", x.count(14), 1103527590);
        x.run(1);
        Due.is("it wraps", x.count(14), 1103527590 * FACTOR + MORE);
        int[] seeds = {0, -1, 2, Due.LEAST, Due.MOST, Due.BAD};
        for (int seed : seeds) {
            x.seed(seed);
            x.run(1);
            Due.is("z of " + seed, x.count(14), seed * FACTOR + MORE);
        }
        // CYCLES 700, with a law that foresees none: below 30 less SPAN 30 is none at all; 710: below 1
        PhoneBench y = sold(0, 710);
        Due.text(y, "back 0");
        // z is -1: 16777215 by 100 rests 15; with its sign it were below 0
        y.seed(seedFor(-1));
        Due.is(">>> and not >>", y.run(1), 0);
        Due.is("z", y.count(14), -1);
        // z is the least int: 8388608 rests 8
        y.seed(seedFor(Due.LEAST));
        Due.is(">>> and not >>", y.run(1), 0);
        // 8388600 rests 0
        y.seed(seedFor(8388600 << 8));
        Due.is("z", y.run(1), 1);
        Due.is("z is below 0", y.count(14), 8388600 << 8);
        // the lowest 8 bits are no matter
        PhoneBench w = sold(0, 710);
        Due.text(w, "back 0");
        w.seed(seedFor(255));
        Due.is("255 >>> 8 is 0", w.run(1), 1);
    }

    @Edge(at = "Terms 4", says = "if the rest of a draw by 100 is below 30 less SPAN (of FORESEEN ones below 60 less SPAN).")
    static void belowWhat() {
        // not FORESEEN: SPAN 20, below 10
        Due.is("9 of 10", comesBack(sold(0, 800), 9), 1);
        Due.is("10 of 10", comesBack(sold(0, 800), 10), 0);
        // SPAN 29, below 1
        Due.is("0 of 1", comesBack(sold(0, 710), 0), 1);
        Due.is("1 of 1", comesBack(sold(0, 710), 1), 0);
        // SPAN 30: below 0, SPAN 31: below -1
        Due.is("0 of 0", comesBack(sold(0, 700), 0), 0);
        Due.is("0 of -1", comesBack(sold(0, 690), 0), 0);
        Due.is("0 of -70", comesBack(sold(0, 0), 0), 0);
        // FORESEEN: SPAN 19, below 41
        Due.is("40 of 41", comesBack(sold(0, 810), 40), 1);
        Due.is("41 of 41", comesBack(sold(0, 810), 41), 0);
        // SPAN 0, below 60
        Due.is("59 of 60", comesBack(sold(3, 999), 59), 1);
        Due.is("60 of 60", comesBack(sold(3, 999), 60), 0);
        Due.is("99 of 60", comesBack(sold(3, 999), 99), 0);
        // 100 rests 0
        PhoneBench x = sold(0, 710);
        x.seed(seedFor(100 << 8));
        Due.is("the rest by 100", x.run(1), 1);
        byTheLaw();
    }

    private static int comesBackUnder(String law, int cycles, int rest) {
        PhoneBench x = sold(0, cycles);
        Due.is("text(" + law + ")", Due.text(x, law), 0);
        return comesBack(x, rest);
    }

    private static void byTheLaw() {
        // SPAN 59, 60 and 61, FORESEEN: below 1, 0 and -1
        Due.is("0 of 1", comesBackUnder("back 1", 410, 0), 1);
        Due.is("1 of 1", comesBackUnder("back 1", 410, 1), 0);
        Due.is("0 of 0", comesBackUnder("back 1", 400, 0), 0);
        Due.is("0 of -1", comesBackUnder("back 1", 390, 0), 0);
        // SPAN 1, not FORESEEN: below 29
        Due.is("28 of 29", comesBackUnder("back 0", 999, 28), 1);
        Due.is("29 of 29", comesBackUnder("back 0", 999, 29), 0);
    }

    @Edge(at = "Terms 4", says = "DAY is one more; then of the PHONES that are SOLD and did not come BACK, by numbers, each (by one draw) "
        + "comes BACK")
    static void byNumbers() {
        // the first draw rests 0, the next one (of this z) 60 or more
        int z = 0;
        for (int i = 0; i < 1000 && (z * FACTOR + MORE >>> 8) % 100 < 60; i++) {
            z += 100 << 8;
        }
        PhoneBench x = Scene.withModel(1000, 0);
        Scene.sold(x, 0, 999, 0);
        x.phone(0, 999, 255);
        Scene.sold(x, 0, 999, 0);
        x.seed(seedFor(z));
        Due.is("one", x.run(1), 1);
        Due.is("the first draw is of the first", x.told(0, RETURNED), 1);
        Due.is("the next of the next", x.told(2, RETURNED), 0);
        Due.is("two draws", x.count(14), z * FACTOR + MORE);
        x.run(1);
        Due.is("one draw more", x.count(14), (z * FACTOR + MORE) * FACTOR + MORE);
        Due.is("DAY", x.count(11), 2);
    }

    @Edge(at = "Promise 32", says = "n (1 .. 60) DAYS go by: how many came BACK in them.")
    static void runInBounds() {
        PhoneBench x = sold(0, 999);
        Due.is("run(1)", x.run(1), 1);
        Due.is("DAY", x.count(11), 1);
        Due.is("in them alone", x.run(60), 0);
        Due.is("DAY", x.count(11), 61);
        PhoneBench y = sold(0, 999);
        Scene.sold(y, 0, 999, 1);
        Due.is("all that came in 60", y.run(60), 2);
        PhoneBench a = sold(0, 800);
        PhoneBench b = sold(0, 800);
        int came = 0;
        for (int i = 0; i < 60; i++) {
            came += a.run(1);
        }
        Due.is("60 at once as one by one", b.run(60), came);
        Due.is("z", b.count(14), a.count(14));
    }

    @Edge(at = "Promise 32", says = "BAD")
    static void runBad() {
        Edges.refusedFor("run", Due.BAD, PhoneBench::run, 0, 61, -1, Due.LEAST, Due.MOST);
    }

    private static PhoneBench onDay(int day) {
        PhoneBench x = sold(0, 800);
        Scene.pass(x, day);
        Due.is("DAY", x.count(11), day);
        return x;
    }

    @Edge(at = "Promise 32", says = "FULL: DAY would be above 999.")
    static void runFull() {
        Edges.refused("run(1) of 999", () -> onDay(999), x -> x.run(1), Due.FULL);
        Edges.refused("run(60) of 999", () -> onDay(999), x -> x.run(60), Due.FULL);
        Edges.refused("run(60) of 940", () -> onDay(940), x -> x.run(60), Due.FULL);
        Edges.refused("run(2) of 998", () -> onDay(998), x -> x.run(2), Due.FULL);
        PhoneBench x = onDay(939);
        Due.holds("run(60) of 939", x.run(60) >= 0);
        Due.is("DAY", x.count(11), 999);
        PhoneBench y = onDay(998);
        Due.holds("run(1) of 998", y.run(1) >= 0);
        Due.is("DAY", y.count(11), 999);
    }

    @Edge(at = "Promise 33", says = "BAD")
    static void rateBad() {
        Edges.refusedFor("rate", Due.BAD, PhoneBench::rate, -1, 4, Due.LEAST, Due.MOST, Due.NONE);
    }

    @Edge(at = "Promise 33", says = "RATE of a bench (0 .. 3).")
    static void rateInBounds() {
        PhoneBench x = Scene.withModel(1000, 0);
        for (int bench = 0; bench < 4; bench++) {
            Scene.sold(x, 0, bench % 3 == 0 ? 999 : 0, bench);
        }
        x.run(60);
        for (int bench = 0; bench < 4; bench++) {
            Due.is("rate(" + bench + ")", x.rate(bench), bench % 3 == 0 ? 100 : 0);
        }
    }

    @Edge(at = "Promise 33", says = "NONE: no SOLD one is of it.")
    static void rateNone() {
        for (int bench = 0; bench < 4; bench++) {
            PhoneBench x = Scene.withPhone(0, 0, 255);
            Due.is("none is MENDED", x.rate(bench), Due.NONE);
            x.mend(0, bench);
            Due.is("MENDED alone", x.rate(bench), Due.NONE);
            x.flag(0, 0, true);
            x.sell(0);
            for (int other = 0; other < 4; other++) {
                Due.is("one SOLD of " + bench + ": rate(" + other + ")", x.rate(other), other == bench ? 0 : Due.NONE);
            }
        }
    }

    @Edge(at = "Promise 34", says = "NONE")
    static void blamedNone() {
        Edges.refused("blamed()", PhoneBench::new, PhoneBench::blamed, Due.NONE);
        PhoneBench x = Scene.withPhone(0, 999, 255);
        x.mend(0, 0);
        Due.is("MENDED alone", x.blamed(), Due.NONE);
        for (int bench = 0; bench < 4; bench++) {
            PhoneBench y = Scene.withModel(1000, 0);
            Scene.sold(y, 0, 0, bench);
            Due.is("the only bench", y.blamed(), bench);
        }
    }

    @Edge(at = "Promise 35", says = "z becomes v: what it was.")
    static void seeds() {
        PhoneBench x = new PhoneBench();
        int[] any = {0, -1, Due.LEAST, Due.MOST, Due.BAD, Due.NONE, 7};
        int was = 1;
        for (int v : any) {
            Due.is("seed(" + v + ")", x.seed(v), was);
            Due.is("count(14)", x.count(14), v);
            was = v;
        }
    }
}
