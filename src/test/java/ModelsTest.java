/** Promises 1 to 6: a new object, model, asked, common, stock, has. */
public final class ModelsTest {
    public static void main(String[] args) {
        aNewObject();
        models();
        askedFor();
        stocks();
        commonSorts();
        Due.end("ModelsTest");
    }

    private static void aNewObject() {
        PhoneBench x = new PhoneBench();
        int[] due = {0, 0, 0, 0, 0, 0, 0, 0, 255, 0, 0, 0, 0, 0, 1};
        for (int what = 0; what < due.length; what++) {
            Due.is("new count(" + what + ")", x.count(what), due[what]);
        }
        Due.is("new asked(0, 0)", x.asked(0, 0), Due.BAD);
        Due.is("new has(0, 0)", x.has(0, 0), Due.BAD);
        Due.is("new told(0, 0)", x.told(0, 0), Due.BAD);
        Due.is("new common(0)", x.common(0), 0);
        for (int key = 0; key < 3; key++) {
            Due.is("new why", x.why(key), Due.NONE);
        }
        for (int cause = 0; cause < 8; cause++) {
            Due.is("new weigh", x.weigh(cause, 1), 1);
        }
        for (int bench = 0; bench < 4; bench++) {
            Due.is("new rate", x.rate(bench), Due.NONE);
        }
        for (int sheet = 0; sheet < 4; sheet++) {
            Due.is("new mark", x.mark(sheet, 0, 0), Due.NOTHING);
        }
        for (int slot = 0; slot < 5; slot++) {
            Due.is("new lay", x.lay(slot, 0, 0), 0);
        }
        Due.is("new blamed()", x.blamed(), Due.NONE);
        Due.is("new back()", x.back(), Due.NO);
    }

    private static void models() {
        PhoneBench x = new PhoneBench();
        Due.is("model(9, 0)", x.model(9, 0), Due.BAD);
        Due.is("model(10000, 0)", x.model(10000, 0), Due.BAD);
        Due.is("model(-10, 0)", x.model(-10, 0), Due.BAD);
        Due.is("model(LEAST, 0)", x.model(Due.LEAST, 0), Due.BAD);
        Due.is("model(10, -1)", x.model(10, -1), Due.BAD);
        Due.is("model(10, 256)", x.model(10, 256), Due.BAD);
        Due.is("count(0)", x.count(0), 0);
        int[] price = {10, 19, 9990, 9999, 2003, 505};
        for (int i = 0; i < 6; i++) {
            Due.is("model", x.model(price[i], 51 * i), i);
        }
        Due.is("BAD stands ahead of FULL", x.model(9, 0), Due.BAD);
        Due.is("the seventh", x.model(10, 0), Due.FULL);
        Due.is("count(0)", x.count(0), 6);
    }

    private static void askedFor() {
        PhoneBench x = new PhoneBench();
        x.model(9999, 0);
        x.model(10, 0);
        x.model(2003, 0);
        Due.is("asked(0, 0)", x.asked(0, 0), 999);
        Due.is("asked(0, 100)", x.asked(0, 100), 99);
        Due.is("asked(0, 110)", x.asked(0, 110), 9);
        Due.is("asked(0, 111)", x.asked(0, 111), 1);
        Due.is("asked(0, 999)", x.asked(0, 999), 1);
        Due.is("asked(1, 0)", x.asked(1, 0), 1);
        Due.is("asked(1, 999)", x.asked(1, 999), 1);
        Due.is("asked(2, 65)", x.asked(2, 65), 5);
        Due.is("asked(2, 66)", x.asked(2, 66), 2);
        Due.is("asked(2, 67)", x.asked(2, 67), 1);
        Due.is("asked(2, -1)", x.asked(2, -1), Due.BAD);
        Due.is("asked(2, 1000)", x.asked(2, 1000), Due.BAD);
        Due.is("asked(3, 0)", x.asked(3, 0), Due.BAD);
        Due.is("asked(-1, 0)", x.asked(-1, 0), Due.BAD);
        x.run(60);
        Due.is("asked is of the day told, not of today", x.asked(0, 0), 999);
    }

    private static void stocks() {
        PhoneBench x = new PhoneBench();
        Due.is("stock without a model", x.stock(0, 0, 1), Due.BAD);
        x.model(1000, 0);
        x.model(1000, 0);
        Due.is("has(1, 7)", x.has(1, 7), 0);
        Due.is("stock(1, 7, 99)", x.stock(1, 7, 99), 0);
        Due.is("stock(1, 7, 0)", x.stock(1, 7, 0), 99);
        Due.is("stock(1, 7, 4)", x.stock(1, 7, 4), 0);
        Due.is("stock(1, 7, 100)", x.stock(1, 7, 100), Due.BAD);
        Due.is("stock(1, 7, -1)", x.stock(1, 7, -1), Due.BAD);
        Due.is("stock(1, 8, 1)", x.stock(1, 8, 1), Due.BAD);
        Due.is("stock(1, -1, 1)", x.stock(1, -1, 1), Due.BAD);
        Due.is("stock(2, 0, 1)", x.stock(2, 0, 1), Due.BAD);
        Due.is("stock(-1, 0, 1)", x.stock(-1, 0, 1), Due.BAD);
        Due.is("has(1, 7)", x.has(1, 7), 4);
        Due.is("has(0, 7)", x.has(0, 7), 0);
        Due.is("has(1, 6)", x.has(1, 6), 0);
        Due.is("has(1, 8)", x.has(1, 8), Due.BAD);
        Due.is("has(1, -1)", x.has(1, -1), Due.BAD);
        Due.is("has(2, 0)", x.has(2, 0), Due.BAD);
        Due.is("has(-1, 0)", x.has(-1, 0), Due.BAD);
    }

    private static void commonSorts() {
        PhoneBench x = new PhoneBench();
        for (int i = 0; i < 3; i++) {
            x.model(1000, 0);
            x.stock(i, 2, 10 + i);
            x.stock(i, 7, 20 + i);
        }
        Due.is("common(-1)", x.common(-1), Due.BAD);
        Due.is("common(256)", x.common(256), Due.BAD);
        Due.is("common(4)", x.common(4), 0);
        Due.is("has(2, 2), common", x.has(2, 2), 10);
        Due.is("has(2, 7), own", x.has(2, 7), 22);
        Due.is("stock(2, 2, 50) of all", x.stock(2, 2, 50), 10);
        Due.is("has(0, 2)", x.has(0, 2), 50);
        Due.is("has(1, 2)", x.has(1, 2), 50);
        x.phone(0, 1000, 251);
        Due.is("mend takes of the common ones", x.mend(0, 0), 1);
        Due.is("has(2, 2)", x.has(2, 2), 49);
        x.phone(0, 2000, 4);
        Due.is("strip gives to the common ones", x.strip(1), 1);
        Due.is("has(0, 2)", x.has(0, 2), 50);
        Due.is("common(128)", x.common(128), 4);
        Due.is("its own stayed under it", x.has(1, 2), 11);
        Due.is("its own stayed under it", x.has(2, 2), 12);
        Due.is("that of model 0", x.has(0, 2), 50);
        Due.is("has(2, 7), common", x.has(2, 7), 20);
        Due.is("common(255)", x.common(255), 128);
        Due.is("common(0)", x.common(0), 255);
        Due.is("has(2, 7), own again", x.has(2, 7), 22);
    }
}
