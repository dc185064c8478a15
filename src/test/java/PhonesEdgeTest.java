/** Boundary cases of phones: promises 7 to 16, and what "Terms" 1 and 2 say of them. */
public final class PhonesEdgeTest {
    private static final int KIND = 0, MODEL = 1, CYCLES = 2, GOOD = 3, FOREIGN = 4, STATE = 5, WIPED = 6, LISTED = 7, HARM = 8,
        SPAN = 9, FRESH = 10, WORTH = 11, PROMISE = 12, BENCH = 13, RETURNED = 14, FORESEEN = 15;
    private static final int[] NO_PHONES = {-1, Scene.BUSY_PHONES, 16, Due.LEAST, Due.MOST};

    public static void main(String[] args) {
        Edges.run(PhonesEdgeTest.class);
    }

    private static int told(int kind, int cycles, int good, int what) {
        return Scene.withPhone(kind, cycles, good).told(0, what);
    }

    @Edge(at = "Terms 1", says = "PHONES, 16 at most, numbered from 0")
    static void sixteenPhones() {
        PhoneBench x = Scene.withModel(1000, 0);
        for (int i = 0; i < 16; i++) {
            Due.is("no such PHONE yet", x.told(i, KIND), Due.BAD);
            Due.is("phone", x.phone(i % 6, i, i), i);
            Due.is("its CYCLES", x.told(i, CYCLES), i);
        }
        Due.is("the 17th", x.phone(0, 0, 0), Due.FULL);
        Due.is("count(1)", x.count(1), 16);
        Due.is("no PHONE 16", x.told(16, KIND), Due.BAD);
        Due.is("the first stays", x.told(0, CYCLES), 0);
        Due.is("the last stays", x.told(15, CYCLES), 15);
    }

    @Edge(at = "Terms 1", says = "of KINDS: 0 PHONE; 1 DROPPED, 2 WET, 5 LOCKED, under PHONE; 3 SOAKED, under WET; 4 CRACKED, under "
        + "DROPPED (all are PHONES)")
    static void treeOfKinds() {
        int[] above = {-1, 0, 0, 2, 1, 0};
        for (int kind = 0; kind < 6; kind++) {
            for (int wanted = 0; wanted < 6; wanted++) {
                boolean is = kind == wanted || above[kind] == wanted || wanted == 0;
                Due.is("as of " + kind + " for " + wanted, Scene.withPhone(kind, 77, 0).as(0, wanted), is ? 77 : Due.KIND);
            }
        }
    }

    @Edge(at = "Terms 1", says = "with SORTS that are GOOD (bits 0 .. 255)")
    static void goodBits() {
        PhoneBench x = Scene.withModel(1000, 0);
        for (int good = 0; good < 256; good += 17) {
            int phone = x.phone(1, 0, good);
            Due.is("GOOD", x.told(phone, GOOD), good);
            Due.is("HARM by what it LACKS", x.told(phone, HARM), 5 + 2 * (8 - Integer.bitCount(good)));
        }
        Due.is("GOOD -1", Scene.withModel(1000, 0).phone(0, 0, -1), Due.BAD);
        Due.is("GOOD 256", Scene.withModel(1000, 0).phone(0, 0, 256), Due.BAD);
    }

    @Edge(at = "Terms 1", says = "LACKS: SORTS that are not GOOD.")
    static void lacks() {
        Due.is("all are GOOD", told(1, 0, 255, HARM), 5);
        Due.is("none is GOOD", told(1, 0, 0, HARM), 21);
        for (int sort = 0; sort < 8; sort++) {
            Due.is("one is not GOOD", told(1, 0, 255 - (1 << sort), HARM), 7);
            Due.is("one is GOOD", told(1, 0, 1 << sort, HARM), 19);
        }
    }

    @Edge(at = "Terms 1", says = "CYCLES 0 .. 999 of its battery (SORT 0)")
    static void cycleBounds() {
        PhoneBench x = Scene.withModel(1000, 0);
        x.phone(0, 0, 0);
        x.phone(0, 999, 0);
        Due.is("0", x.told(0, CYCLES), 0);
        Due.is("999", x.told(1, CYCLES), 999);
        Due.is("-1", x.phone(0, -1, 0), Due.BAD);
        Due.is("1000 is of the next MODEL", x.phone(0, 1000, 0), Due.BAD);
        x.model(1000, 0);
        Due.is("1000 is of the next MODEL", x.phone(0, 1000, 0), 2);
        Due.is("MODEL 1", x.told(2, MODEL), 1);
        Due.is("CYCLES 0", x.told(2, CYCLES), 0);
        x.stock(0, 0, 9);
        x.phone(0, 998, 254);
        Due.is("another battery", x.mend(3, 0), 1);
        Due.is("CYCLES stay", x.told(3, CYCLES), 998);
    }

    @Edge(at = "Terms 1", says = "FOREIGN SORTS (bits; none, at first)")
    static void foreignAtFirst() {
        for (int good = 0; good < 256; good += 51) {
            PhoneBench x = Scene.withPhone(0, 0, good);
            Due.is("none, at first", x.told(0, FOREIGN), 0);
            Scene.stockAll(x, 0, 1);
            x.mend(0, 0);
            Due.is("those that it lacked", x.told(0, FOREIGN), 255 - good);
        }
    }

    @Edge(at = "Terms 1", says = "WIPED or not, on THE LIST of stolen ones or not (not, at first)")
    static void notAtFirst() {
        PhoneBench x = Scene.withPhone(0, 0, 255);
        Due.is("not WIPED", x.told(0, WIPED), 0);
        Due.is("not on THE LIST", x.told(0, LISTED), 0);
        Due.is("not WIPED is not new", x.flag(0, 0, false), 0);
        Due.is("not on THE LIST is not new", x.flag(0, 1, false), 0);
    }

    @Edge(at = "Terms 1", says = "STATE: 0 IN, 1 MENDED, 2 STRIPPED, 3 SOLD, 4 HELD.")
    static void states() {
        PhoneBench x = Scene.busy();
        Due.is("IN", x.told(Scene.DROPPED_IN, STATE), 0);
        Due.is("MENDED", x.told(Scene.MENDED, STATE), 1);
        Due.is("STRIPPED", x.told(Scene.STRIPPED, STATE), 2);
        Due.is("SOLD", x.told(Scene.SOLD, STATE), 3);
        Due.is("came BACK: SOLD", x.told(Scene.CAME_BACK, STATE), 3);
        Due.is("HELD", x.told(Scene.HELD, STATE), 4);
    }

    @Edge(at = "Terms 1", says = "PHONE: 5. DROPPED: as PHONE, and 2 for each SORT that it LACKS. CRACKED: as DROPPED, and 9. WET: twice "
        + "as PHONE. SOAKED: as WET, and CYCLES by 100. LOCKED: 99.")
    static void harms() {
        // KIND, CYCLES, GOOD, HARM
        int[][] due = {{0, 0, 255, 5}, {0, 999, 0, 5}, {1, 999, 255, 5}, {1, 0, 254, 7}, {1, 0, 0, 21}, {4, 999, 255, 14}, {4, 0, 127, 16},
            {4, 0, 0, 30}, {2, 0, 255, 10}, {2, 999, 0, 10}, {3, 0, 255, 10}, {3, 99, 0, 10}, {3, 100, 0, 11}, {3, 199, 0, 11},
            {3, 200, 0, 12}, {3, 899, 0, 18}, {3, 900, 0, 19}, {3, 999, 0, 19}, {5, 0, 255, 99}, {5, 999, 0, 99}};
        for (int[] one : due) {
            Due.is("HARM of KIND " + one[0] + ", " + one[1] + ", " + one[2], told(one[0], one[1], one[2], HARM), one[3]);
        }
    }

    private static int spanAsPhone(int cycles) {
        return Math.max(0, 100 - cycles / 10);
    }

    @Edge(at = "Terms 1", says = "PHONE: 100 less CYCLES by 10, 0 at least.")
    static void spans() {
        int[][] due = {{0, 100}, {9, 100}, {10, 99}, {19, 99}, {20, 98}, {989, 2}, {990, 1}, {999, 1}};
        for (int[] one : due) {
            Due.is("SPAN of " + one[0], told(0, one[0], 0, SPAN), one[1]);
        }
        for (int cycles = 0; cycles < 1000; cycles++) {
            Due.is("SPAN of " + cycles, told(0, cycles, 255, SPAN), spanAsPhone(cycles));
        }
    }

    @Edge(at = "Terms 1", says = "WET: half (cut) of as PHONE.")
    static void spansOfWet() {
        int[][] due = {{0, 50}, {9, 50}, {10, 49}, {20, 49}, {30, 48}, {970, 1}, {980, 1}, {990, 0}, {999, 0}};
        for (int[] one : due) {
            Due.is("SPAN of " + one[0], told(2, one[0], 0, SPAN), one[1]);
        }
    }

    @Edge(at = "Terms 1", says = "SOAKED: as WET, less 5, 0 at least.")
    static void spansOfSoaked() {
        // as PHONE: 100, 99, 13, 12, 11, 10, 9, 2, 1
        int[][] due = {{0, 45}, {10, 44}, {870, 1}, {880, 1}, {889, 1}, {890, 0}, {900, 0}, {910, 0}, {980, 0}, {990, 0}, {999, 0}};
        for (int[] one : due) {
            Due.is("SPAN of " + one[0], told(3, one[0], 0, SPAN), one[1]);
        }
    }

    @Edge(at = "Terms 1", says = "(A KIND that is not named does as the one above it.)")
    static void spansOfTheOthers() {
        for (int cycles = 0; cycles < 1000; cycles += 111) {
            Due.is("DROPPED", told(1, cycles, 0, SPAN), spanAsPhone(cycles));
            Due.is("CRACKED", told(4, cycles, 0, SPAN), spanAsPhone(cycles));
            Due.is("LOCKED", told(5, cycles, 0, SPAN), spanAsPhone(cycles));
        }
    }

    @Edge(at = "Terms 1", says = "PHONE: 100. DROPPED: 90. CRACKED: as DROPPED, less 10. WET: as PHONE, less 20. SOAKED: half of as WET. "
        + "LOCKED: 0.")
    static void freshOnes() {
        int[] due = {100, 90, 80, 40, 80, 0};
        for (int kind = 0; kind < 6; kind++) {
            Due.is("FRESH of " + kind, told(kind, 0, 0, FRESH), due[kind]);
            Due.is("FRESH of " + kind, told(kind, 999, 255, FRESH), due[kind]);
        }
    }

    private static int worth(int price, int kind, int cycles) {
        PhoneBench x = Scene.withModel(10 * price, 0);
        x.phone(kind, cycles, 255);
        return x.told(0, WORTH);
    }

    @Edge(at = "Terms 1", says = "ASKED times FRESH by 100 (cut), and that times (50 and the half of SPAN, cut), by 100 (cut)")
    static void worths() {
        Due.is("the most", worth(999, 0, 0), 999);
        Due.is("the least", worth(1, 0, 0), 1);
        Due.is("1 * 90 / 100 is 0", worth(1, 1, 0), 0);
        Due.is("1 * 99 / 100 is 0", worth(1, 0, 20), 0);
        Due.is("LOCKED", worth(999, 5, 0), 0);
        // SPAN 99: its half is 49
        Due.is("half of SPAN, cut", worth(100, 0, 10), 99);
        // SPAN 1: its half is 0; 999 * 50 / 100 is 499
        Due.is("the least SPAN", worth(999, 0, 999), 499);
        // 11 * 90 / 100 is 9, and 9 * 99 / 100 is 8; uncut it were 9.801
        Due.is("cut each time", worth(11, 1, 20), 8);
        // 199 * 40 / 100 is 79; SPAN 0: 79 * 50 / 100 is 39
        Due.is("SOAKED, SPAN 0", worth(199, 3, 999), 39);
        for (int price = 1; price < 1000; price += 37) {
            for (int kind = 0; kind < 6; kind++) {
                PhoneBench x = Scene.withModel(10 * price, 0);
                x.phone(kind, 13 * kind + price / 2, 0);
                int due = price * x.told(0, FRESH) / 100 * (50 + x.told(0, SPAN) / 2) / 100;
                Due.is("WORTH", x.told(0, WORTH), due);
            }
        }
    }

    /** WORTH of a plain PHONE whose SORTS are all FOREIGN, so many of them PAIRED. */
    private static int worthPaired(int price, int paired) {
        PhoneBench x = Scene.withModel(10 * price, paired);
        x.phone(0, 0, 0);
        Scene.stockAll(x, 0, 1);
        x.mend(0, 0);
        return x.told(0, WORTH);
    }

    @Edge(at = "Terms 1", says = "its tenth (cut; the same each time) less for each SORT that is PAIRED in its MODEL and FOREIGN in it "
        + "(0 at least).")
    static void tenths() {
        Due.is("a tenth of 9 is 0", worthPaired(9, 255), 9);
        Due.is("a tenth of 10 is 1", worthPaired(10, 255), 2);
        Due.is("a tenth of 10 is 1", worthPaired(10, 128), 9);
        Due.is("a tenth of 19 is 1", worthPaired(19, 255), 11);
        Due.is("a tenth of 20 is 2", worthPaired(20, 255), 4);
        Due.is("the same each time", worthPaired(100, 3), 80);
        Due.is("none is PAIRED", worthPaired(100, 0), 100);
        Due.is("0 at least", worthPaired(1, 255), 1);
        PhoneBench x = Scene.withModel(1000, 255);
        x.phone(0, 0, 255);
        x.mend(0, 0);
        Due.is("none is FOREIGN", x.told(0, WORTH), 100);
        PhoneBench y = Scene.withModel(19, 255);
        Scene.stockAll(y, 0, 1);
        y.phone(1, 0, 0);
        y.mend(0, 0);
        y.run(1);
        Due.is("0 at least", y.told(0, WORTH), 0);
    }

    @Edge(at = "Terms 2", says = "each SORT that it LACKS is taken from STOCK (one of its MODEL), is GOOD and FOREIGN then (CYCLES stay).")
    static void takenFromStock() {
        PhoneBench x = Scene.withPhone(0, 555, 0b01111110);
        x.model(1000, 0);
        Scene.stockAll(x, 1, 99);
        Due.is("there are none of its MODEL", x.mend(0, 0), Due.NO);
        x.stock(0, 0, 1);
        Due.is("the last SORT is not there", x.mend(0, 0), Due.NO);
        Due.is("nothing was taken", x.has(0, 0), 1);
        x.stock(0, 7, 99);
        Due.is("mend", x.mend(0, 0), 2);
        Due.is("one of one", x.has(0, 0), 0);
        Due.is("one of 99", x.has(0, 7), 98);
        Due.is("of the other MODEL none", x.has(1, 0), 99);
        Due.is("all are GOOD", x.told(0, GOOD), 255);
        Due.is("FOREIGN", x.told(0, FOREIGN), 0b10000001);
        Due.is("CYCLES stay", x.told(0, CYCLES), 555);
    }

    @Edge(at = "Terms 2", says = "each SORT that is GOOD comes to STOCK of its MODEL (those above 99 are lost); none is GOOD then.")
    static void lostAbove99() {
        PhoneBench x = Scene.withPhone(0, 0, 0b00000111);
        x.stock(0, 0, 99);
        x.stock(0, 1, 98);
        Due.is("strip", x.strip(0), 2);
        Due.is("99 stays 99", x.has(0, 0), 99);
        Due.is("98 becomes 99", x.has(0, 1), 99);
        Due.is("0 becomes 1", x.has(0, 2), 1);
        Due.is("not GOOD, did not come", x.has(0, 3), 0);
        Due.is("none is GOOD then", x.told(0, GOOD), 0);
    }

    @Edge(at = "Terms 2", says = "LOCKED ones are never MENDED.")
    static void lockedOnes() {
        Edges.refused("mend", x -> x.mend(Scene.LOCKED_IN, 0), Due.NO);
        PhoneBench x = Scene.withPhone(0, 0, 255);
        x.turns(0, 5);
        Due.is("turned to LOCKED", x.mend(0, 0), Due.NO);
        x.turns(0, 3);
        Due.is("turned from LOCKED", x.mend(0, 0), 0);
    }

    /** One that can be sold. */
    private static PhoneBench forSale() {
        PhoneBench x = Scene.withPhone(0, 0, 255);
        x.mend(0, 0);
        x.flag(0, 0, true);
        return x;
    }

    private static int soldUnder(String law) {
        PhoneBench x = forSale();
        Due.is("text(" + law + ")", Due.text(x, law), 0);
        return x.sell(0);
    }

    @Edge(at = "Terms 2", says = "SOLD is one that is MENDED, WIPED, not on THE LIST, and for which sale gives what is not 0 (without a "
        + "TEXT: 1)")
    static void whoMayBeSold() {
        Due.is("without a TEXT", forSale().sell(0), 200);
        Due.is("sale 0", soldUnder("sale 0"), Due.NO);
        Due.is("sale 1", soldUnder("sale 1"), 200);
        Due.is("sale -1", soldUnder("sale 0-1"), 200);
        Due.is("sale 9999", soldUnder("sale 9999"), 200);
        Due.is("what wraps to 0", soldUnder("sale 4096*4096*256"), Due.NO);
        Due.is("what wraps below 0", soldUnder("sale 2048*1024*1024"), 200);
        Due.is("a law of another KEY", soldUnder("scrap 0"), 200);
    }

    private static PhoneBench listedIn(int state) {
        PhoneBench x = Scene.withPhone(0, 0, 255);
        switch (state) {
            case 1: x.mend(0, 0); break;
            case 2: x.strip(0); break;
            case 3: x.mend(0, 0); x.flag(0, 0, true); x.sell(0); break;
            case 4: x.flag(0, 1, true); x.hold(0); break;
            default: break;
        }
        x.flag(0, 1, true);
        Due.is("STATE", x.told(0, STATE), state);
        return x;
    }

    @Edge(at = "Terms 2", says = "HELD one on THE LIST that is IN or MENDED.")
    static void whoMayBeHeld() {
        for (int state = 0; state <= 4; state++) {
            int its = state;
            if (state < 2) {
                PhoneBench x = listedIn(state);
                Due.is("hold", x.hold(0), 1);
                Due.is("STATE", x.told(0, STATE), 4);
            } else {
                Edges.refused("hold in STATE " + state, () -> listedIn(its), x -> x.hold(0), Due.NO);
            }
        }
    }

    @Edge(at = "Terms 2", says = "THE TILL is 0 at first: WORTH of each that is SOLD (today) and SCRAP of each that is STRIPPED more, HARM "
        + "of each that is MENDED less (each as it is ahead of that).")
    static void till() {
        PhoneBench x = Scene.withModel(2003, 1);
        Due.is("0 at first", x.count(10), 0);
        Due.text(x, "scrap g*10+k");
        x.phone(1, 0, 0b11111100);
        x.phone(1, 0, 0b00000011);
        x.strip(1);
        Due.is("SCRAP by what was GOOD ahead", x.count(10), 21);
        x.mend(0, 0);
        Due.is("HARM by what it LACKED ahead", x.count(10), 21 - 9);
        x.flag(0, 0, true);
        x.run(2);
        // 194 * 90 / 100 = 174, less 17 for the battery that is PAIRED and FOREIGN
        Due.is("sell", x.sell(0), 157);
        Due.is("WORTH of today", x.count(10), 12 + 157);
        PhoneBench y = Scene.withPhone(2, 0, 255);
        y.mend(0, 0);
        Due.is("below 0", y.count(10), -10);
        y.flag(0, 1, true);
        y.hold(0);
        Due.is("HELD ones bring nothing", y.count(10), -10);
    }

    private static int scrapUnder(String law) {
        PhoneBench x = Scene.withPhone(0, 0, 0);
        Due.is("text(" + law + ")", Due.text(x, law), 0);
        x.strip(0);
        return x.count(10);
    }

    @Edge(at = "Terms 2", says = "SCRAP: what scrap gives, held within 0 .. 99 (without a TEXT: 3).")
    static void scrapBounds() {
        PhoneBench x = Scene.withPhone(0, 0, 0);
        x.strip(0);
        Due.is("without a TEXT", x.count(10), 3);
        Due.is("a law of another KEY", scrapUnder("sale 50"), 3);
        Due.is("-1", scrapUnder("scrap 0-1"), 0);
        Due.is("0", scrapUnder("scrap 0"), 0);
        Due.is("1", scrapUnder("scrap 1"), 1);
        Due.is("98", scrapUnder("scrap 98"), 98);
        Due.is("99", scrapUnder("scrap 99"), 99);
        Due.is("100", scrapUnder("scrap 100"), 99);
        Due.is("the most", scrapUnder("scrap 2048*1024*1024-1"), 99);
        Due.is("the least", scrapUnder("scrap 2048*1024*1024"), 0);
    }

    @Edge(at = "Promise 7", says = "One more PHONE that is IN (of: 1000 times MODEL, and CYCLES): its number.")
    static void phonesInBounds() {
        PhoneBench x = new PhoneBench();
        for (int i = 0; i < 6; i++) {
            x.model(1000, 0);
        }
        int[][] of = {{0, 0, 0}, {999, 0, 999}, {1000, 1, 0}, {1999, 1, 999}, {5000, 5, 0}, {5999, 5, 999}};
        for (int i = 0; i < of.length; i++) {
            Due.is("phone", x.phone(i, of[i][0], i % 2 * 255), i);
            int[] due = {i, of[i][1], of[i][2], i % 2 * 255, 0, 0, 0, 0};
            for (int what = KIND; what <= LISTED; what++) {
                Due.is("told(" + i + ", " + what + ")", x.told(i, what), due[what]);
            }
        }
        Due.is("all are IN", x.count(2), 6);
    }

    @Edge(at = "Promise 7", says = "BAD")
    static void phoneBad() {
        Edges.refusedFor("phone(kind, 0, 0)", Due.BAD, (x, v) -> x.phone(v, 0, 0), -1, 6, Due.LEAST, Due.MOST);
        Edges.refusedFor("phone(0, of, 0)", Due.BAD, (x, v) -> x.phone(0, v, 0), -1, -999, -1000, 1000 * Scene.BUSY_MODELS, 6000, Due.LEAST,
            Due.MOST);
        Edges.refusedFor("phone(0, 0, good)", Due.BAD, (x, v) -> x.phone(0, 0, v), -1, 256, Due.LEAST, Due.MOST);
        Edges.refused("without a MODEL", PhoneBench::new, x -> x.phone(0, 0, 0), Due.BAD);
    }

    @Edge(at = "Promise 7", says = "FULL")
    static void phoneFull() {
        Edges.refused("phone(0, 0, 0)", Scene::full, x -> x.phone(0, 0, 0), Due.FULL);
        Edges.refused("phone(5, 5999, 255)", Scene::full, x -> x.phone(5, 5999, 255), Due.FULL);
    }

    @Edge(at = "Promise 8", says = "13 its bench (NONE), 14 whether it came BACK (1, 0), 15 whether FORESEEN (1, 0)")
    static void toldOnes() {
        PhoneBench x = Scene.busy();
        Due.is("no bench", x.told(Scene.DROPPED_IN, BENCH), Due.NONE);
        Due.is("STRIPPED: no bench", x.told(Scene.STRIPPED, BENCH), Due.NONE);
        Due.is("its bench", x.told(Scene.MENDED, BENCH), 2);
        Due.is("came BACK", x.told(Scene.CAME_BACK, RETURNED), 1);
        Due.is("did not", x.told(Scene.SOLD, RETURNED), 0);
        Due.is("FORESEEN", x.told(Scene.CAME_BACK, FORESEEN), 1);
        Due.is("is not", x.told(Scene.SOLD, FORESEEN), 0);
        for (int bench = 0; bench < 4; bench++) {
            PhoneBench y = Scene.withPhone(0, 0, 255);
            y.mend(0, bench);
            Due.is("bench " + bench, y.told(0, BENCH), bench);
        }
    }

    @Edge(at = "Promise 8", says = "5 STATE, 6 WIPED (1, 0), 7 on THE LIST (1, 0)")
    static void toldFlags() {
        PhoneBench x = Scene.busy();
        Due.is("WIPED", x.told(Scene.MENDED, WIPED), 1);
        Due.is("not WIPED", x.told(Scene.HELD, WIPED), 0);
        Due.is("on THE LIST", x.told(Scene.HELD, LISTED), 1);
        Due.is("not on it", x.told(Scene.MENDED, LISTED), 0);
    }

    @Edge(at = "Promise 8", says = "BAD")
    static void toldBad() {
        Edges.refusedFor("told(0, what)", Due.BAD, (x, v) -> x.told(0, v), -1, 16, Due.LEAST, Due.MOST);
        Edges.refusedFor("told(phone, 0)", Due.BAD, (x, v) -> x.told(v, 0), NO_PHONES);
        Edges.refusedFor("told(phone, 15)", Due.BAD, (x, v) -> x.told(v, 15), NO_PHONES);
        Edges.refused("told(16, 0)", Scene::full, x -> x.told(16, 0), Due.BAD);
        PhoneBench y = Scene.full();
        Due.is("told(15, 0)", y.told(15, 0), 3);
    }

    @Edge(at = "Promise 9", says = "BAD: phone, kind")
    static void asBad() {
        Edges.refusedFor("as(phone, 0)", Due.BAD, (x, v) -> x.as(v, 0), NO_PHONES);
        Edges.refusedFor("as(0, kind)", Due.BAD, (x, v) -> x.as(0, v), -1, 6, Due.LEAST, Due.MOST);
    }

    @Edge(at = "Promise 9", says = "A PHONE as one of a KIND: CYCLES.")
    static void asInBounds() {
        Due.is("the least CYCLES", Scene.withPhone(5, 0, 0).as(0, 5), 0);
        Due.is("the most CYCLES", Scene.withPhone(5, 999, 0).as(0, 0), 999);
        Due.is("CRACKED for DROPPED", Scene.busy().as(Scene.HELD, 1), 300);
        Due.is("CRACKED for PHONE", Scene.busy().as(Scene.HELD, 0), 300);
        Due.is("CRACKED for CRACKED", Scene.busy().as(Scene.HELD, 4), 300);
    }

    @Edge(at = "Promise 9", says = "KIND: it is not of that KIND, nor of one under it.")
    static void asKind() {
        Edges.refused("PHONE for LOCKED", x -> x.as(Scene.SOLD, 5), Due.KIND);
        Edges.refused("DROPPED for CRACKED, under it", x -> x.as(Scene.DROPPED_IN, 4), Due.KIND);
        Edges.refused("DROPPED for WET, beside it", x -> x.as(Scene.DROPPED_IN, 2), Due.KIND);
        Edges.refused("CRACKED for SOAKED", x -> x.as(Scene.HELD, 3), Due.KIND);
    }

    @Edge(at = "Promise 10", says = "BAD")
    static void turnsBad() {
        PhoneBench y = Scene.withPhone(0, 0, 0);
        Due.is("to the last KIND", y.turns(0, 5), 0);
        Due.is("to the first KIND", y.turns(0, 0), 5);
        Due.is("to the same KIND", y.turns(0, 0), 0);
        Edges.refusedFor("turns(phone, 0)", Due.BAD, (x, v) -> x.turns(v, 0), NO_PHONES);
        Edges.refusedFor("turns(0, kind)", Due.BAD, (x, v) -> x.turns(0, v), -1, 6, Due.LEAST, Due.MOST);
    }

    @Edge(at = "Promise 11", says = "1 if that is new, else 0")
    static void flagIsNew() {
        PhoneBench y = Scene.withPhone(0, 0, 0);
        for (int what = 0; what < 2; what++) {
            Due.is("not, as it was", y.flag(0, what, false), 0);
            Due.is("new", y.flag(0, what, true), 1);
            Due.is("as it was", y.flag(0, what, true), 0);
            Due.is("not, new", y.flag(0, what, false), 1);
        }
    }

    @Edge(at = "Promise 11", says = "BAD")
    static void flagBad() {
        for (int i = 0; i < 2; i++) {
            boolean is = i == 1;
            Edges.refusedFor("flag(phone, 0)", Due.BAD, (x, v) -> x.flag(v, 0, is), NO_PHONES);
            Edges.refusedFor("flag(phone, 1)", Due.BAD, (x, v) -> x.flag(v, 1, is), NO_PHONES);
            Edges.refusedFor("flag(0, what)", Due.BAD, (x, v) -> x.flag(Scene.MENDED, v, is), -1, 2, Due.LEAST, Due.MOST);
        }
    }

    @Edge(at = "Promise 12", says = "PROMISE of a PHONE becomes v: what it was.")
    static void promiseInBounds() {
        PhoneBench y = Scene.withPhone(0, 0, 0);
        Due.is("999 at first", y.promise(0, 0), 999);
        Due.is("0", y.promise(0, 999), 0);
        Due.is("999", y.promise(0, 998), 999);
        Due.is("told", y.told(0, PROMISE), 998);
    }

    @Edge(at = "Promise 12", says = "BAD")
    static void promiseBad() {
        Edges.refusedFor("promise(phone, 5)", Due.BAD, (x, v) -> x.promise(v, 5), NO_PHONES);
        Edges.refusedFor("promise(0, v)", Due.BAD, (x, v) -> x.promise(0, v), -1, 1000, Due.LEAST, Due.MOST);
    }

    @Edge(at = "Promise 13", says = "A PHONE is MENDED at a bench: how many parts it took.")
    static void mendEdges() {
        for (int good = 0; good < 256; good += 15) {
            PhoneBench x = Scene.withPhone(0, 0, good);
            Scene.stockAll(x, 0, 1);
            Due.is("parts of " + good, x.mend(0, good % 4), 8 - Integer.bitCount(good));
            for (int sort = 0; sort < 8; sort++) {
                Due.is("has(0, " + sort + ")", x.has(0, sort), good >> sort & 1);
            }
        }
    }

    @Edge(at = "Promise 13", says = "BAD")
    static void mendBad() {
        Edges.refusedFor("mend(phone, 0)", Due.BAD, (x, v) -> x.mend(v, 0), NO_PHONES);
        Edges.refusedFor("mend(0, bench)", Due.BAD, (x, v) -> x.mend(0, v), -1, 4, Due.LEAST, Due.MOST, Due.NONE);
        Due.is("bench 0", Scene.busy().mend(Scene.DROPPED_IN, 0), 4);
        Due.is("bench 3", Scene.busy().mend(Scene.DROPPED_IN, 3), 4);
    }

    @Edge(at = "Promise 13", says = "NO: it is not IN, LOCKED, or a part is not there.")
    static void mendNo() {
        Edges.refusedFor("mend, not IN", Due.NO, (x, v) -> x.mend(v, 0), Scene.MENDED, Scene.STRIPPED, Scene.SOLD, Scene.HELD,
            Scene.CAME_BACK);
        Edges.refused("LOCKED", x -> x.mend(Scene.LOCKED_IN, 3), Due.NO);
        Edges.refused("parts are not there", x -> x.mend(Scene.SOAKED_IN, 0), Due.NO);
        for (int sort = 0; sort < 8; sort++) {
            int without = sort;
            Edges.refused("SORT " + sort + " is not there", () -> {
                PhoneBench x = Scene.withPhone(0, 0, 0);
                Scene.stockAll(x, 0, 1);
                x.stock(0, without, 0);
                return x;
            }, x -> x.mend(0, 0), Due.NO);
        }
        Due.is("without parts, none lacking", Scene.withPhone(0, 0, 255).mend(0, 0), 0);
    }

    @Edge(at = "Promise 14", says = "how many parts came to STOCK (those lost not)")
    static void stripEdges() {
        for (int have = 97; have <= 99; have++) {
            PhoneBench x = Scene.withPhone(0, 0, 255);
            Scene.stockAll(x, 0, have);
            Due.is("strip with " + have, x.strip(0), have < 99 ? 8 : 0);
            Due.is("has(0, 0)", x.has(0, 0), Math.min(99, have + 1));
            Due.is("has(0, 7)", x.has(0, 7), Math.min(99, have + 1));
        }
        PhoneBench y = Scene.withPhone(5, 0, 0);
        Due.is("none is GOOD", y.strip(0), 0);
        Due.is("STRIPPED all the same", y.told(0, STATE), 2);
        Due.is("SCRAP all the same", y.count(10), 3);
    }

    @Edge(at = "Promise 14", says = "BAD")
    static void stripBad() {
        Edges.refusedFor("strip(phone)", Due.BAD, PhoneBench::strip, NO_PHONES);
    }

    @Edge(at = "Promise 14", says = "NO: it is not IN.")
    static void stripNo() {
        Edges.refusedFor("strip, not IN", Due.NO, PhoneBench::strip, Scene.MENDED, Scene.STRIPPED, Scene.SOLD, Scene.HELD, Scene.CAME_BACK);
    }

    @Edge(at = "Promise 15", says = "BAD")
    static void sellBad() {
        Edges.refusedFor("sell(phone)", Due.BAD, PhoneBench::sell, NO_PHONES);
    }

    @Edge(at = "Promise 15", says = "A PHONE is SOLD: for how much.")
    static void sellForHowMuch() {
        PhoneBench x = Scene.withModel(19, 0);
        x.phone(1, 0, 255);
        x.mend(0, 0);
        x.flag(0, 0, true);
        Due.is("for nothing", x.sell(0), 0);
        Due.is("SOLD all the same", x.told(0, STATE), 3);
        Due.is("the most", worthOfSale(), 999);
    }

    private static int worthOfSale() {
        PhoneBench x = Scene.withModel(9999, 255);
        x.phone(0, 0, 255);
        x.mend(0, 0);
        x.flag(0, 0, true);
        return x.sell(0);
    }

    @Edge(at = "Promise 15", says = "NO: it can't be.")
    static void sellNo() {
        Edges.refusedFor("sell, not MENDED", Due.NO, PhoneBench::sell, Scene.DROPPED_IN, Scene.STRIPPED, Scene.SOLD, Scene.HELD,
            Scene.LOCKED_IN, Scene.CAME_BACK);
        Edges.refused("IN, WIPED", () -> {
            PhoneBench x = Scene.withPhone(0, 0, 255);
            x.flag(0, 0, true);
            return x;
        }, x -> x.sell(0), Due.NO);
        Edges.refused("not WIPED", () -> {
            PhoneBench x = forSale();
            x.flag(0, 0, false);
            return x;
        }, x -> x.sell(0), Due.NO);
        Edges.refused("on THE LIST", () -> {
            PhoneBench x = forSale();
            x.flag(0, 1, true);
            return x;
        }, x -> x.sell(0), Due.NO);
        Edges.refused("sale 0", () -> {
            PhoneBench x = forSale();
            Due.text(x, "sale s>100");
            return x;
        }, x -> x.sell(0), Due.NO);
        Edges.refused("HELD, WIPED, off THE LIST again", () -> {
            PhoneBench x = forSale();
            x.flag(0, 1, true);
            x.hold(0);
            x.flag(0, 1, false);
            return x;
        }, x -> x.sell(0), Due.NO);
    }

    @Edge(at = "Promise 16", says = "BAD")
    static void holdBad() {
        Edges.refusedFor("hold(phone)", Due.BAD, PhoneBench::hold, NO_PHONES);
    }

    @Edge(at = "Promise 16", says = "NO: it can't be.")
    static void holdNo() {
        Edges.refusedFor("hold, not on THE LIST, or HELD", Due.NO, PhoneBench::hold, 0, 1, 2, 3, 4, 5, 6, 7);
    }

    @Edge(at = "Promise 16", says = "A PHONE is HELD: 1.")
    static void holds() {
        PhoneBench x = Scene.busy();
        x.flag(Scene.LOCKED_IN, 1, true);
        Due.is("a LOCKED one", x.hold(Scene.LOCKED_IN), 1);
        x.flag(Scene.MENDED, 1, true);
        Due.is("a MENDED one", x.hold(Scene.MENDED), 1);
        Due.is("once", x.hold(Scene.MENDED), Due.NO);
    }
}
