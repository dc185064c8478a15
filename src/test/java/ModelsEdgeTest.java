/** Boundary cases of models and stock: promises 1 to 6, and what "Terms" 1 says of them. */
public final class ModelsEdgeTest {
    public static void main(String[] args) {
        Edges.run(ModelsEdgeTest.class);
    }

    @Edge(at = "Promise 1", says = "As told; no MODELS.")
    static void nothingIsThere() {
        PhoneBench x = new PhoneBench();
        int[] due = {0, 0, 0, 0, 0, 0, 0, 0, 255, 0, 0, 0, 0, 0, 1};
        for (int what = 0; what < 15; what++) {
            Due.is("count(" + what + ")", x.count(what), due[what]);
        }
        Due.is("no MODEL", x.asked(0, 0), Due.BAD);
        Due.is("no MODEL", x.phone(0, 0, 0), Due.BAD);
        Due.is("no PHONE", x.told(0, 0), Due.BAD);
        Due.is("no PHONE", x.choose(0), Due.BAD);
        Due.is("no TEXT", x.textTold(0, 0), Due.BAD);
        Due.is("no CHECK", x.says(0, true), Due.BAD);
        Due.is("no told ones", x.clear(), 0);
        Due.is("nothing to be had", x.plan(-1), 0);
        Due.is("none late", x.noon(-1), 0);
        Due.is("no tape", x.trim(1), Due.BAD);
        Due.is("no IMAGE", x.back(), Due.NO);
        Due.is("no IMAGE", x.proves(1), Due.NO);
        Due.is("the first MODEL", x.model(10, 0), 0);
        Due.is("the first number", x.tell(0), 1);
        Due.is("the first CHECK", x.check(1), 0);
        Due.is("the first PHONE", x.phone(0, 0, 0), 0);
    }

    @Edge(at = "Terms 1", says = "DAY is 0 at first (999 at most).")
    static void dayAtMost() {
        PhoneBench x = new PhoneBench();
        Due.is("DAY at first", x.count(11), 0);
        Scene.pass(x, 998);
        Due.is("run(1) to 999", x.run(1), 0);
        Due.is("DAY", x.count(11), 999);
        Edges.refused("run(1) beyond 999", Scene::full, y -> y.run(1), Due.FULL);
    }

    @Edge(at = "Terms 1", says = "MODELS, 6 at most, numbered from 0")
    static void sixModels() {
        PhoneBench x = new PhoneBench();
        for (int i = 0; i < 6; i++) {
            Due.is("no such MODEL yet", x.has(i, 0), Due.BAD);
            Due.is("model", x.model(10 * (i + 1), 0), i);
            Due.is("its PRICE", x.asked(i, 0), i + 1);
        }
        Due.is("the seventh", x.model(10, 0), Due.FULL);
        Due.is("count(0)", x.count(0), 6);
        Due.is("no MODEL 6", x.has(6, 0), Due.BAD);
        Due.is("the first one stays", x.asked(0, 0), 1);
        Due.is("the last one stays", x.asked(5, 0), 6);
    }

    @Edge(at = "Terms 1", says = "a PRICE 1 .. 999")
    static void prices() {
        Due.is("PRICE 1", Scene.withModel(10, 0).asked(0, 0), 1);
        Due.is("PRICE 999", Scene.withModel(9990, 0).asked(0, 0), 999);
        PhoneBench x = new PhoneBench();
        Due.is("PRICE 0", x.model(0, 0), Due.BAD);
        Due.is("PRICE 0, FALL 9", x.model(9, 0), Due.BAD);
        Due.is("PRICE 1000", x.model(10000, 0), Due.BAD);
        Due.is("count(0)", x.count(0), 0);
    }

    @Edge(at = "Terms 1", says = "a FALL 0 .. 9 (a DAY)")
    static void falls() {
        for (int fall = 0; fall <= 9; fall++) {
            PhoneBench x = Scene.withModel(5000 + fall, 0);
            Due.is("PRICE beside FALL " + fall, x.asked(0, 0), 500);
            Due.is("FALL " + fall + " of one DAY", x.asked(0, 1), 500 - fall);
            Due.is("FALL " + fall + " of two DAYS", x.asked(0, 2), 500 - 2 * fall);
        }
    }

    /** WORTH of a plain PHONE in which all SORTS are FOREIGN. */
    private static int worthOfForeign(int price, int paired) {
        PhoneBench x = Scene.withModel(10 * price, paired);
        Scene.stockAll(x, 0, 1);
        x.phone(0, 0, 0);
        Due.is("mend", x.mend(0, 0), 8);
        return x.told(0, 11);
    }

    @Edge(at = "Terms 1", says = "of SORTS of parts that are PAIRED in it (bits)")
    static void pairedBits() {
        for (int sort = 0; sort < 8; sort++) {
            PhoneBench x = Scene.withModel(9000, 1 << sort);
            Scene.stockAll(x, 0, 1);
            x.phone(0, 0, 255 & ~(1 << sort));
            x.phone(0, 0, 1 << sort);
            x.mend(0, 0);
            Due.is("its own SORT " + sort, x.told(0, 11), 810);
            x.stock(0, sort, 1);
            x.mend(1, 0);
            Due.is("the other SORTS", x.told(1, 11), 900);
        }
    }

    @Edge(at = "Terms 1", says = "SORTS of parts are 0 .. 7 for each MODEL")
    static void sorts() {
        PhoneBench x = Scene.withModel(1000, 0);
        x.model(1000, 0);
        for (int sort = 0; sort < 8; sort++) {
            Due.is("stock", x.stock(1, sort, 10 + sort), 0);
        }
        for (int sort = 0; sort < 8; sort++) {
            Due.is("has(1, " + sort + ")", x.has(1, sort), 10 + sort);
            Due.is("has(0, " + sort + ")", x.has(0, sort), 0);
        }
        Edges.refusedFor("has", Due.BAD, (y, v) -> y.has(1, v), -1, 8, Due.LEAST, Due.MOST);
        Edges.refusedFor("stock", Due.BAD, (y, v) -> y.stock(1, v, 5), -1, 8, Due.LEAST, Due.MOST);
    }

    @Edge(at = "Terms 1", says = "some are COMMON to all MODELS (bits, told for all; none, at first)")
    static void noneCommonAtFirst() {
        PhoneBench x = Scene.withModel(1000, 0);
        x.model(1000, 0);
        Due.is("none, at first", x.common(0), 0);
        for (int sort = 0; sort < 8; sort++) {
            x.stock(0, sort, 40);
            x.stock(1, sort, 50);
        }
        for (int bit = 0; bit < 8; bit++) {
            x.common(1 << bit);
            for (int sort = 0; sort < 8; sort++) {
                Due.is("has(1, " + sort + ") with common " + bit, x.has(1, sort), sort == bit ? 40 : 50);
            }
        }
    }

    @Edge(at = "Terms 1", says = "of each MODEL and SORT so many (0 .. 99; 0 at first)")
    static void stockBounds() {
        PhoneBench x = new PhoneBench();
        for (int model = 0; model < 6; model++) {
            x.model(1000, 0);
            for (int sort = 0; sort < 8; sort++) {
                Due.is("0 at first", x.has(model, sort), 0);
            }
        }
        Due.is("99", x.stock(5, 7, 99), 0);
        Due.is("99", x.has(5, 7), 99);
        Due.is("100", x.stock(5, 7, 100), Due.BAD);
        Due.is("99 still", x.stock(5, 7, 0), 99);
        Due.is("-1", x.stock(5, 7, -1), Due.BAD);
        Due.is("0 still", x.has(5, 7), 0);
    }

    @Edge(at = "Terms 1", says = "of a COMMON SORT all MODELS have that of MODEL 0")
    static void thatOfModelNought() {
        PhoneBench x = new PhoneBench();
        for (int model = 0; model < 6; model++) {
            x.model(1000, 0);
            x.stock(model, 3, 10 * (model + 1));
        }
        x.common(8);
        for (int model = 0; model < 6; model++) {
            Due.is("has(" + model + ", 3)", x.has(model, 3), 10);
        }
        Due.is("set through the last MODEL", x.stock(5, 3, 99), 10);
        Due.is("MODEL 0 has it", x.has(0, 3), 99);
        x.phone(0, 5000, 8);
        Due.is("it is full for all: lost", x.strip(0), 0);
        x.stock(0, 3, 0);
        x.phone(0, 4000, 247);
        Due.is("it is empty for all, with 50 under it", x.mend(1, 0), Due.NO);
        x.stock(2, 3, 1);
        Due.is("the one that is there", x.mend(1, 0), 1);
        Due.is("has(0, 3)", x.has(0, 3), 0);
        x.common(0);
        for (int model = 1; model < 6; model++) {
            Due.is("under it all stayed, " + model, x.has(model, 3), 10 * (model + 1));
        }
    }

    @Edge(at = "Terms 1", says = "PRICE less FALL times DAY, 1 at least.")
    static void oneAtLeast() {
        // 28 less 9 times 3 is 1; 29: 2; 27: 0; 19: -8
        int[][] due = {{289, 3, 1}, {299, 3, 2}, {279, 3, 1}, {199, 3, 1}, {289, 2, 10}, {289, 4, 1}, {19, 999, 1}, {10, 999, 1},
            {9991, 998, 1}, {9991, 997, 2}, {9991, 999, 1}, {9999, 111, 1}, {9999, 110, 9}, {9990, 999, 999}, {9999, 999, 1}};
        for (int[] one : due) {
            Due.is("asked of " + one[0] + " on " + one[1], Scene.withModel(one[0], 0).asked(0, one[1]), one[2]);
        }
    }

    @Edge(at = "Promise 2", says = "(price: 10 times PRICE, and FALL; paired: bits 0 .. 255): its number")
    static void modelsInBounds() {
        PhoneBench x = new PhoneBench();
        Due.is("model(10, 0)", x.model(10, 0), 0);
        Due.is("model(9999, 255)", x.model(9999, 255), 1);
        Due.is("model(10, 255)", x.model(10, 255), 2);
        Due.is("model(9999, 0)", x.model(9999, 0), 3);
        Due.is("PRICE 1, FALL 0", x.asked(0, 999), 1);
        Due.is("PRICE 999", x.asked(1, 0), 999);
        Due.is("FALL 9", x.asked(1, 1), 990);
        Due.is("all are paired", worthOfForeign(900, 255), 900 - 8 * 90);
        Due.is("none is paired", worthOfForeign(900, 0), 900);
    }

    @Edge(at = "Promise 2", says = "BAD")
    static void modelBad() {
        Edges.refusedFor("model(price, 0)", Due.BAD, (x, v) -> x.model(v, 0), 9, 10000, 0, -1, -10, -11, 10009, Due.LEAST, Due.MOST);
        Edges.refusedFor("model(10, paired)", Due.BAD, (x, v) -> x.model(10, v), -1, 256, Due.LEAST, Due.MOST);
    }

    @Edge(at = "Promise 2", says = "FULL")
    static void modelFull() {
        Edges.refused("model(10, 0)", Scene::full, x -> x.model(10, 0), Due.FULL);
        Edges.refused("model(9999, 255)", Scene::full, x -> x.model(9999, 255), Due.FULL);
    }

    @Edge(at = "Promise 3", says = "ASKED for a MODEL on a DAY (0 .. 999)")
    static void askedInBounds() {
        PhoneBench x = Scene.withModel(9991, 0);
        Due.is("asked(0, 0)", x.asked(0, 0), 999);
        Due.is("asked(0, 998)", x.asked(0, 998), 1);
        Due.is("asked(0, 999)", x.asked(0, 999), 1);
        Scene.pass(x, 999);
        Due.is("of a DAY that is gone", x.asked(0, 0), 999);
    }

    @Edge(at = "Promise 3", says = "BAD")
    static void askedBad() {
        Edges.refusedFor("asked(0, day)", Due.BAD, (x, v) -> x.asked(0, v), -1, 1000, Due.LEAST, Due.MOST);
        Edges.refusedFor("asked(model, 0)", Due.BAD, (x, v) -> x.asked(v, 0), -1, Scene.BUSY_MODELS, 6, Due.LEAST, Due.MOST);
        Edges.refused("asked(6, 0)", Scene::full, x -> x.asked(6, 0), Due.BAD);
    }

    @Edge(at = "Promise 4", says = "(bits 0 .. 255; STOCK of each MODEL as it is, under it): what they were")
    static void commonInBounds() {
        PhoneBench x = Scene.withModel(1000, 0);
        x.model(1000, 0);
        for (int sort = 0; sort < 8; sort++) {
            x.stock(0, sort, 20 + sort);
            x.stock(1, sort, 30 + sort);
        }
        Due.is("common(255)", x.common(255), 0);
        Due.is("all are that of MODEL 0", x.has(1, 0), 20);
        Due.is("all are that of MODEL 0", x.has(1, 7), 27);
        x.stock(1, 0, 1);
        Due.is("common(0)", x.common(0), 255);
        Due.is("as it is, under it", x.has(1, 0), 30);
        Due.is("as it is, under it", x.has(1, 7), 37);
        Due.is("MODEL 0 has what was set", x.has(0, 0), 1);
        Due.is("common(0)", x.common(0), 0);
    }

    @Edge(at = "Promise 4", says = "BAD")
    static void commonBad() {
        Edges.refusedFor("common", Due.BAD, PhoneBench::common, -1, 256, Due.LEAST, Due.MOST);
    }

    @Edge(at = "Promise 5", says = "becomes n (0 .. 99): what it was")
    static void stockInBounds() {
        PhoneBench x = Scene.withModel(1000, 0);
        Due.is("stock(0, 0, 0)", x.stock(0, 0, 0), 0);
        Due.is("stock(0, 0, 99)", x.stock(0, 0, 99), 0);
        Due.is("stock(0, 0, 98)", x.stock(0, 0, 98), 99);
        Due.is("stock(0, 7, 1)", x.stock(0, 7, 1), 0);
        Due.is("has(0, 0)", x.has(0, 0), 98);
    }

    @Edge(at = "Promise 5", says = "BAD")
    static void stockBad() {
        Edges.refusedFor("stock(0, 0, n)", Due.BAD, (x, v) -> x.stock(0, 0, v), -1, 100, Due.LEAST, Due.MOST);
        Edges.refusedFor("stock(0, sort, 5)", Due.BAD, (x, v) -> x.stock(0, v, 5), -1, 8, Due.LEAST, Due.MOST);
        Edges.refusedFor("stock(model, 0, 5)", Due.BAD, (x, v) -> x.stock(v, 0, 5), -1, Scene.BUSY_MODELS, 6, Due.LEAST, Due.MOST);
        Edges.refused("a COMMON SORT of no MODEL", x -> x.stock(Scene.BUSY_MODELS, 7, 5), Due.BAD);
    }

    @Edge(at = "Promise 6", says = "BAD")
    static void hasBad() {
        PhoneBench x = Scene.full();
        Due.is("has(5, 7)", x.has(5, 7), 0);
        Due.is("has(0, 0)", x.has(0, 0), 0);
        Edges.refusedFor("has(0, sort)", Due.BAD, (y, v) -> y.has(0, v), -1, 8, Due.LEAST, Due.MOST);
        Edges.refusedFor("has(model, 0)", Due.BAD, (y, v) -> y.has(v, 0), -1, Scene.BUSY_MODELS, 6, Due.LEAST, Due.MOST);
        Edges.refused("a COMMON SORT of no MODEL", y -> y.has(Scene.BUSY_MODELS, 7), Due.BAD);
        Edges.refused("has(6, 0)", Scene::full, y -> y.has(6, 0), Due.BAD);
    }
}
