import java.util.Arrays;

/** Boundary cases of rows and images: promises 45 to 49, and what "Terms" 5 says of them. */
public final class RowsEdgeTest {
    public static void main(String[] args) {
        Edges.run(RowsEdgeTest.class);
    }

    /** Of PRICE 100, FALL 7; one IN, one MENDED, one STRIPPED, one HELD, one SOLD that comes BACK on the first DAY. */
    private static PhoneBench shop() {
        PhoneBench x = Scene.withModel(1007, 0);
        for (int i = 0; i < 4; i++) {
            x.phone(0, 0, 255);
        }
        x.mend(1, 0);
        x.strip(2);
        x.flag(3, 1, true);
        x.hold(3);
        Scene.sold(x, 0, 999, 0);
        return x;
    }

    private static PhoneBench keptShop() {
        PhoneBench x = shop();
        x.keep();
        return x;
    }

    private static int proved(PhoneBench x, int n, int... numbers) {
        Scene.tellAll(x, numbers);
        Due.is("so many wait", x.count(12), numbers.length);
        int answer = x.proves(n);
        Due.is("none wait then", x.count(12), 0);
        return answer;
    }

    @Edge(at = "Terms 5", says = "AN IMAGE keeps all but SHEETS, SLOTS, numbers that wait, THE TAPE;")
    static void images() {
        Edges.alike("all is as THE IMAGE", () -> {
            PhoneBench x = Scene.busy();
            x.keep();
            wreck(x);
            Due.is("back", x.back(), 4);
            likewise(x);
            return x;
        }, () -> {
            PhoneBench x = Scene.busy();
            x.keep();
            likewise(x);
            return x;
        });
        PhoneBench y = Scene.busy();
        y.keep();
        wreck(y);
        y.back();
        Due.is("the tape is as it became", y.count(13), 23);
        Due.is("numbers are as they became", y.count(12), 2);
        Due.is("SHEETS are as they became", y.mark(Scene.FLOATS, 0, 0), Due.NOTHING);
        Due.is("SLOTS are as they became", y.rest(Scene.EMPTY, 1000), 77);
    }

    @Edge(at = "Terms 5", says = "all can become as it is (again and again).")
    static void againAndAgain() {
        PhoneBench x = shop();
        x.keep();
        for (int again = 0; again < 20; again++) {
            x.run(1 + again);
            x.turns(0, 1 + again % 5);
            x.strip(0);
            x.seed(again);
            Due.is("back", x.back(), 0);
            Due.is("KIND", x.told(0, 0), 0);
            Due.is("STATE", x.told(0, 5), 0);
            Due.is("none came BACK", x.count(5), 0);
            Due.is("z", x.count(14), 1);
        }
    }

    private static void wreck(PhoneBench x) {
        x.model(10, 255);
        x.common(1);
        Scene.stockAll(x, 0, 50);
        Scene.stockAll(x, 1, 60);
        x.phone(4, 1999, 0);
        for (int phone = 0; phone < Scene.BUSY_PHONES; phone++) {
            x.turns(phone, (x.told(phone, 0) + 1) % 6);
            x.flag(phone, 0, x.told(phone, 6) == 0);
            x.flag(phone, 1, x.told(phone, 7) == 0);
            x.promise(phone, 5);
            x.mend(phone, 3);
            x.sell(phone);
            x.strip(phone);
            x.hold(phone);
        }
        x.clear();
        x.turns(Scene.BUSY_PHONES, 0);
        x.choose(Scene.BUSY_PHONES);
        x.phone(0, 0, 0);
        x.phone(0, 0, 0);
        x.choose(Scene.BUSY_PHONES + 2);
        x.choose(Scene.BUSY_PHONES + 1);
        x.weigh(0, 77);
        x.check(1);
        x.anew();
        x.says(2, false);
        x.run(9);
        x.seed(5);
        x.trim(0);
        Due.text(x, "sale 0");
        Due.tape(x, "back 1      k          1");
        x.trim(23);
        x.proves(1);
        Scene.tellAll(x, 1, 2);
        x.sheet(Scene.FLOATS, -1, 0);
        x.lay(Scene.EMPTY, 3, 77);
    }

    private static void likewise(PhoneBench x) {
        x.trim(0);
        x.proves(1);
        for (int sheet = 0; sheet < 4; sheet++) {
            x.sheet(sheet, -1, 0);
        }
        for (int slot = 0; slot < 5; slot++) {
            x.lay(slot, 0, 0);
        }
    }

    @Edge(at = "Terms 5", says = "WORTH of all PHONES that are IN or MENDED together, and how many came BACK (ever), behind each of n DAYS from THE IMAGE on.")
    static void daysTold() {
        PhoneBench x = shop();
        x.keep();
        Due.is("IN and MENDED alone, behind each DAY", proved(x, 2, 186, 1, 172, 1), 0);
        Due.is("not ahead of it", proved(x, 1, 200, 0), 1);
        x.run(5);
        x.strip(0);
        Due.is("from THE IMAGE on", proved(x, 1, 186, 1), 0);
        x.keep();
        Due.is("ever: it came BACK ahead of THE IMAGE", proved(x, 1, 58, 1), 0);
        PhoneBench y = new PhoneBench();
        y.keep();
        Due.is("nothing at all", proved(y, 1, 0, 0), 0);
        // PAIRED ones that are FOREIGN make less of WORTH
        PhoneBench z = Scene.withModel(1001, 1);
        z.phone(0, 0, 254);
        z.stock(0, 0, 1);
        z.mend(0, 0);
        z.keep();
        Due.is("99 less 9", proved(z, 1, 90, 0), 0);
        // the first draw rests 54: below 59 if it is FORESEEN, not below 29
        PhoneBench w = shop();
        Due.text(w, "back 0");
        w.keep();
        Due.text(w, "back 1");
        Due.is("by the law of THE IMAGE", proved(w, 1, 186, 0), 0);
        PhoneBench v = keptShop();
        Due.text(v, "back 0");
        Due.is("THE IMAGE has no law", proved(v, 1, 186, 1), 0);
    }

    @Edge(at = "Promise 45", says = "FULL: 60 wait.")
    static void tellFull() {
        PhoneBench x = new PhoneBench();
        int[] any = {Due.LEAST, Due.MOST, 0, Due.NONE, Due.FULL};
        for (int i = 0; i < 60; i++) {
            Due.is("tell", x.tell(any[i % any.length]), i + 1);
        }
        Due.is("the 61st", x.tell(0), Due.FULL);
        Due.is("count(12)", x.count(12), 60);
        Edges.refused("tell", Scene::full, y -> y.tell(7), Due.FULL);
        PhoneBench z = new PhoneBench();
        z.keep();
        Scene.tellAll(z, new int[60]);
        Due.is("the 61st", z.tell(1), Due.FULL);
        Due.is("the 60 are as they were", z.proves(30), 0);
        Due.is("the first again", z.tell(1), 1);
    }

    @Edge(at = "Promise 45", says = "One more number waits: how many.")
    static void tellsHowMany() {
        PhoneBench x = new PhoneBench();
        Due.is("the first", x.tell(0), 1);
        Due.is("the second", x.tell(Due.LEAST), 2);
        x.proves(1);
        Due.is("the first again", x.tell(Due.MOST), 1);
    }

    @Edge(at = "Promise 46", says = "The numbers that wait (none do then, whatever is answered)")
    static void noneWaitThen() {
        PhoneBench x = shop();
        Due.is("NO", proved(x, 1, 1, 2, 3), Due.NO);
        Due.is("BAD, no IMAGE", proved(x, 0, 1, 2, 3), Due.BAD);
        x.keep();
        Due.is("BAD", proved(x, 31, 1, 2, 3), Due.BAD);
        Due.is("right", proved(x, 1, 186, 1), 0);
        Due.is("wrong", proved(x, 1, 7, 7, 7), 1);
        Due.is("none", proved(x, 1), 1);
    }

    @Edge(at = "Promise 46", says = "are THE DAYS TOLD of n (1 .. 30), two by two: 0")
    static void provesInBounds() {
        PhoneBench x = shop();
        x.keep();
        Due.is("1 DAY", proved(x, 1, Scene.daysTold(shop(), 1)), 0);
        Due.is("2 DAYS", proved(x, 2, Scene.daysTold(shop(), 2)), 0);
        Due.is("29 DAYS", proved(x, 29, Scene.daysTold(shop(), 29)), 0);
        Due.is("30 DAYS", proved(x, 30, Scene.daysTold(shop(), 30)), 0);
        String was = Due.state(x);
        Due.is("again and again", proved(x, 30, Scene.daysTold(shop(), 30)), 0);
        Due.same("nothing changes", Due.state(x), was);
    }

    @Edge(at = "Promise 46", says = "else 1 and how many stand right ahead of the first that is not (or is missing, or one too many)")
    static void provesNot() {
        int[] row = Scene.daysTold(shop(), 30);
        for (int wrong = 0; wrong < 60; wrong++) {
            PhoneBench y = keptShop();
            int[] bent = row.clone();
            bent[wrong] += wrong % 3 == 0 ? -1 : 1;
            Due.is("the one at " + wrong + " is not", proved(y, 30, bent), 1 + wrong);
            Due.is(wrong + " and no more", proved(y, 30, Arrays.copyOf(row, wrong)), 1 + wrong);
        }
        for (int n = 1; n < 30; n++) {
            PhoneBench y = keptShop();
            Due.is("one too many", proved(y, n, Arrays.copyOf(row, 2 * n + 1)), 1 + 2 * n);
            Due.is("many too many", proved(y, n, row), 1 + 2 * n);
        }
        PhoneBench x = keptShop();
        Due.is("wrong, and one too many", proved(x, 1, 186, 2, 172), 2);
        Due.is("wrong, and one missing", proved(x, 2, 187, 1, 172), 1);
        Due.is("two wrong ones", proved(x, 2, 186, 2, 172, 2), 2);
    }

    @Edge(at = "Promise 46", says = "BAD")
    static void provesBad() {
        // with no numbers that wait, so that nothing at all may change
        int[] bad = {0, 31, -1, Due.LEAST, Due.MOST};
        for (int n : bad) {
            Edges.refused("proves(" + n + ")", RowsEdgeTest::busyWithoutNumbers, x -> x.proves(n), Due.BAD);
            Edges.refused("proves(" + n + ") without an IMAGE", RowsEdgeTest::shop, x -> x.proves(n), Due.BAD);
        }
    }

    @Edge(at = "Promise 46", says = "NO: there is no IMAGE.")
    static void provesNo() {
        Edges.refused("proves(1)", RowsEdgeTest::shop, x -> x.proves(1), Due.NO);
        Edges.refused("proves(30)", RowsEdgeTest::shop, x -> x.proves(30), Due.NO);
        Edges.refused("proves(1), none waits", RowsEdgeTest::busyWithoutNumbers, x -> x.proves(1), 1);
    }

    private static PhoneBench busyWithoutNumbers() {
        PhoneBench x = Scene.busy();
        x.proves(2);
        return x;
    }

    @Edge(at = "Promise 46", says = "(DAYS go beyond 999, too.)")
    static void beyondTheLastDay() {
        PhoneBench x = Scene.withModel(9991, 0);
        x.phone(0, 0, 255);
        Scene.sold(x, 0, 999, 0);
        Scene.pass(x, 999);
        Due.is("it came BACK", x.count(5), 1);
        Due.is("keep on the last DAY", x.keep(), 999);
        int[] row = new int[60];
        for (int i = 0; i < 60; i++) {
            row[i] = 1;
        }
        Due.is("to DAY 1029", proved(x, 30, row), 0);
        Due.is("DAY stays", x.count(11), 999);
        Due.is("no DAY more", x.run(1), Due.FULL);
        // FALL 0: WORTH stays; a SOLD one may come BACK beyond 999
        PhoneBench y = Scene.withModel(9990, 0);
        y.phone(0, 0, 255);
        Scene.pass(y, 999);
        Scene.sold(y, 0, 999, 0);
        y.keep();
        Due.is("it comes BACK by the first draw", proved(y, 1, 999, 1), 0);
    }

    @Edge(at = "Promise 47", says = "AN IMAGE is kept: the DAY.")
    static void keeps() {
        PhoneBench x = new PhoneBench();
        Due.is("DAY 0", x.keep(), 0);
        Scene.pass(x, 999);
        Due.is("THE IMAGE is of DAY 0", x.back(), 0);
        Scene.pass(x, 999);
        Due.is("DAY 999", x.keep(), 999);
        Due.is("another IMAGE", x.back(), 999);
        Due.is("DAY", x.count(11), 999);
        Due.is("of an image itself", x.keep(), 999);
        PhoneBench y = Scene.full();
        y.keep();
        y.clear();
        y.back();
        Due.same("a full one", Scene.probe(y, 0), Scene.probe(Scene.full(), 0));
    }

    @Edge(at = "Promise 48", says = "NO: there is none.")
    static void backNo() {
        Edges.refused("back()", PhoneBench::new, PhoneBench::back, Due.NO);
        Edges.refused("back()", Scene::full, PhoneBench::back, Due.NO);
        Edges.refused("back()", RowsEdgeTest::shop, PhoneBench::back, Due.NO);
        PhoneBench x = new PhoneBench();
        x.keep();
        x.model(10, 0);
        x.phone(0, 0, 0);
        Due.is("to an empty one", x.back(), 0);
        Due.is("no MODELS", x.count(0), 0);
        Due.is("no MODEL 0", x.asked(0, 0), Due.BAD);
        Due.is("no PHONE 0", x.told(0, 0), Due.BAD);
        Due.is("the first again", x.model(20, 0), 0);
        Due.is("its PRICE", x.asked(0, 0), 2);
        nothingOfAnOldPhone();
    }

    /** A PHONE that comes behind back() has nothing of one that had its number. */
    private static void nothingOfAnOldPhone() {
        int[] first = {0, 0, 0, 255, 0, 0, 0, 0, 5, 100, 100, 1, 999, Due.NONE, 0, 0};
        for (int old = 0; old < 3; old++) {
            PhoneBench x = Scene.withModel(10, 255);
            x.keep();
            Scene.stockAll(x, 0, 1);
            x.phone(3, 999, 0);
            x.promise(0, 7);
            if (old < 2) {
                x.mend(0, 2);
                x.flag(0, 0, true);
            }
            if (old == 0) {
                x.sell(0);
                x.run(60);
                Due.is("it came BACK", x.told(0, 14), 1);
            } else {
                x.flag(0, 1, true);
                x.hold(0);
            }
            x.back();
            Due.is("phone", x.phone(0, 0, 255), 0);
            for (int what = 0; what < 16; what++) {
                Due.is("told(0, " + what + ")", x.told(0, what), first[what]);
            }
        }
    }

    @Edge(at = "Promise 49", says = "How many: 0 MODELS, 1 PHONES, 2 of these IN, 3 MENDED, 4 SOLD, 5 that came BACK, 6 TEXTS, 7 CHECKS, 8 OPEN "
        + "(bits), 9 told ones, 10 THE TILL, 11 the DAY, 12 numbers that wait, 13 bytes of THE TAPE, 14 z.")
    static void counts() {
        PhoneBench x = new PhoneBench();
        int[] empty = {0, 0, 0, 0, 0, 0, 0, 0, 255, 0, 0, 0, 0, 0, 1};
        int[] full = {6, 16, 15, 0, 0, 0, 14, 8, 255, 6, 3, 999, 60, 96, 1};
        int[] busy = {2, 8, 3, 1, 2, 1, 3, 3, 15, 3, 258, 4, 4, 11, -112468174};
        PhoneBench y = Scene.full();
        PhoneBench z = Scene.busy();
        for (int what = 0; what < 15; what++) {
            Due.is("empty: count(" + what + ")", x.count(what), empty[what]);
            Due.is("full: count(" + what + ")", y.count(what), full[what]);
            Due.is("busy: count(" + what + ")", z.count(what), busy[what]);
        }
    }

    @Edge(at = "Promise 49", says = "BAD")
    static void countBad() {
        Edges.refusedFor("count", Due.BAD, PhoneBench::count, -1, 15, Due.LEAST, Due.MOST);
    }
}
