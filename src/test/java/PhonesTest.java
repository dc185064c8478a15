/** Promises 7 to 16: phone, told, as, turns, flag, promise, mend, strip, sell, hold. */
public final class PhonesTest {
    public static void main(String[] args) {
        phones();
        kinds();
        worths();
        pairedWorth();
        asKinds();
        turning();
        flags();
        promises();
        mending();
        stripping();
        selling();
        holding();
        Due.end("PhonesTest");
    }

    private static PhoneBench with(int price, int paired) {
        PhoneBench x = new PhoneBench();
        x.model(price, paired);
        return x;
    }

    private static void fill(PhoneBench x, int n) {
        for (int sort = 0; sort < 8; sort++) {
            x.stock(0, sort, n);
        }
    }

    private static void phones() {
        PhoneBench x = new PhoneBench();
        Due.is("phone without a model", x.phone(0, 0, 0), Due.BAD);
        x.model(1000, 0);
        x.model(1000, 0);
        Due.is("phone(-1, 0, 0)", x.phone(-1, 0, 0), Due.BAD);
        Due.is("phone(6, 0, 0)", x.phone(6, 0, 0), Due.BAD);
        Due.is("phone(0, -1, 0)", x.phone(0, -1, 0), Due.BAD);
        Due.is("phone(0, LEAST, 0)", x.phone(0, Due.LEAST, 0), Due.BAD);
        Due.is("phone(0, 2000, 0)", x.phone(0, 2000, 0), Due.BAD);
        Due.is("phone(0, 0, -1)", x.phone(0, 0, -1), Due.BAD);
        Due.is("phone(0, 0, 256)", x.phone(0, 0, 256), Due.BAD);
        Due.is("phone(5, 1999, 255)", x.phone(5, 1999, 255), 0);
        int[] due = {5, 1, 999, 255, 0, 0, 0, 0, 99, 1, 0, 0, 999, Due.NONE, 0, 0};
        for (int what = 0; what < 16; what++) {
            Due.is("told(0, " + what + ")", x.told(0, what), due[what]);
        }
        Due.is("told(0, 16)", x.told(0, 16), Due.BAD);
        Due.is("told(0, -1)", x.told(0, -1), Due.BAD);
        Due.is("told(1, 0)", x.told(1, 0), Due.BAD);
        Due.is("told(-1, 0)", x.told(-1, 0), Due.BAD);
        for (int i = 1; i < 16; i++) {
            Due.is("phone", x.phone(i % 6, 999, i), i);
        }
        Due.is("BAD stands ahead of FULL", x.phone(6, 0, 0), Due.BAD);
        Due.is("the 17th", x.phone(0, 0, 0), Due.FULL);
        Due.is("count(1)", x.count(1), 16);
        Due.is("count(2)", x.count(2), 16);
        PhoneBench y = new PhoneBench();
        for (int model = 0; model < 6; model++) {
            Due.is("no such model yet", y.phone(0, 1000 * model, 0), Due.BAD);
            y.model(1000, 0);
            y.phone(0, 1000 * model, 0);
            Due.is("its MODEL", y.told(2 * model, 1), model);
            y.phone(0, 1000 * model + 999, 0);
            Due.is("its MODEL", y.told(2 * model + 1, 1), model);
            Due.is("its CYCLES", y.told(2 * model + 1, 2), 999);
        }
        Due.is("phone(0, 6000, 0)", y.phone(0, 6000, 0), Due.BAD);
    }

    private static void kinds() {
        PhoneBench x = with(9990, 0);
        // KIND, CYCLES, GOOD; HARM, SPAN, FRESH
        int[][] row = {
            {0, 0, 255, 5, 100, 100}, {0, 999, 0, 5, 1, 100}, {0, 19, 3, 5, 99, 100},
            {1, 0, 255, 5, 100, 90}, {1, 500, 0, 21, 50, 90}, {1, 505, 7, 15, 50, 90},
            {2, 0, 0, 10, 50, 80}, {2, 990, 255, 10, 0, 80}, {2, 370, 1, 10, 31, 80},
            {3, 0, 0, 10, 45, 40}, {3, 999, 255, 19, 0, 40}, {3, 900, 255, 19, 0, 40}, {3, 199, 1, 11, 35, 40},
            {4, 100, 0, 30, 90, 80}, {4, 200, 255, 14, 80, 80},
            {5, 300, 0, 99, 70, 0},
        };
        for (int i = 0; i < row.length; i++) {
            Due.is("phone", x.phone(row[i][0], row[i][1], row[i][2]), i);
            Due.is("HARM of " + i, x.told(i, 8), row[i][3]);
            Due.is("SPAN of " + i, x.told(i, 9), row[i][4]);
            Due.is("FRESH of " + i, x.told(i, 10), row[i][5]);
        }
    }

    private static void worths() {
        PhoneBench x = with(9999, 0);
        x.phone(0, 0, 0);
        x.phone(3, 199, 0);
        x.phone(4, 111, 0);
        x.phone(5, 0, 0);
        Due.is("WORTH of a plain one", x.told(0, 11), 999);
        // 999 * 40 / 100 = 399; 399 * (50 + 35 / 2) / 100 = 399 * 67 / 100
        Due.is("WORTH of a soaked one", x.told(1, 11), 267);
        // 999 * 80 / 100 = 799; SPAN 100 - 11 = 89; 799 * 94 / 100
        Due.is("WORTH of a cracked one", x.told(2, 11), 751);
        Due.is("WORTH of a locked one", x.told(3, 11), 0);
        x.run(60);
        // 999 - 540 = 459
        Due.is("WORTH falls", x.told(0, 11), 459);
        Due.is("WORTH falls", x.told(1, 11), 183 * 67 / 100);
        x.run(60);
        Due.is("WORTH at the least price", x.told(0, 11), 1);
        Due.is("WORTH at the least price", x.told(2, 11), 0);
    }

    private static void pairedWorth() {
        PhoneBench x = with(1290, 0b10110101);
        fill(x, 9);
        x.phone(0, 0, 0);
        x.phone(0, 0, 0b11101101);
        Due.is("mend(0, 0)", x.mend(0, 0), 8);
        Due.is("mend(1, 0)", x.mend(1, 0), 2);
        // WORTH 129, its tenth 12; five are paired and foreign of the first, one of the second
        Due.is("WORTH less five tenths", x.told(0, 11), 129 - 60);
        Due.is("WORTH less one tenth", x.told(1, 11), 129 - 12);
        PhoneBench y = with(9990, 255);
        fill(y, 9);
        y.phone(0, 0, 0);
        y.mend(0, 0);
        Due.is("WORTH less eight tenths", y.told(0, 11), 999 - 8 * 99);
    }

    private static void asKinds() {
        PhoneBench x = with(1000, 0);
        boolean[][] under = {
            {true, false, false, false, false, false},
            {true, true, false, false, false, false},
            {true, false, true, false, false, false},
            {true, false, true, true, false, false},
            {true, true, false, false, true, false},
            {true, false, false, false, false, true},
        };
        for (int kind = 0; kind < 6; kind++) {
            x.phone(kind, 100 * kind + 7, 0);
            for (int wanted = 0; wanted < 6; wanted++) {
                Due.is("as(" + kind + ", " + wanted + ")", x.as(kind, wanted),
                    under[kind][wanted] ? 100 * kind + 7 : Due.KIND);
            }
        }
        Due.is("as(0, 6)", x.as(0, 6), Due.BAD);
        Due.is("as(0, -1)", x.as(0, -1), Due.BAD);
        Due.is("as(6, 0)", x.as(6, 0), Due.BAD);
        Due.is("as(-1, 0)", x.as(-1, 0), Due.BAD);
    }

    private static void turning() {
        PhoneBench x = with(1000, 0);
        x.phone(3, 500, 15);
        Due.is("turns(0, 4)", x.turns(0, 4), 3);
        Due.is("turns(0, 4)", x.turns(0, 4), 4);
        Due.is("HARM by the new KIND", x.told(0, 8), 5 + 8 + 9);
        Due.is("SPAN by the new KIND", x.told(0, 9), 50);
        Due.is("as by the new KIND", x.as(0, 1), 500);
        Due.is("turns(0, 6)", x.turns(0, 6), Due.BAD);
        Due.is("turns(0, -1)", x.turns(0, -1), Due.BAD);
        Due.is("turns(1, 0)", x.turns(1, 0), Due.BAD);
        Due.is("turns(-1, 0)", x.turns(-1, 0), Due.BAD);
        Due.is("told(0, 0)", x.told(0, 0), 4);
        x.strip(0);
        Due.is("turns one that is stripped", x.turns(0, 0), 4);
    }

    private static void flags() {
        PhoneBench x = with(1000, 0);
        x.phone(0, 0, 255);
        x.phone(0, 0, 255);
        for (int what = 0; what < 2; what++) {
            Due.is("flag, not new", x.flag(0, what, false), 0);
            Due.is("flag, new", x.flag(0, what, true), 1);
            Due.is("flag, not new", x.flag(0, what, true), 0);
            Due.is("told", x.told(0, 6 + what), 1);
            Due.is("told of the other", x.told(1, 6 + what), 0);
            Due.is("told of the other flag", x.told(0, 7 - what), 0);
            Due.is("flag, new", x.flag(0, what, false), 1);
            Due.is("told", x.told(0, 6 + what), 0);
        }
        Due.is("flag(0, 2)", x.flag(0, 2, true), Due.BAD);
        Due.is("flag(0, -1)", x.flag(0, -1, true), Due.BAD);
        Due.is("flag(2, 0)", x.flag(2, 0, true), Due.BAD);
        Due.is("flag(-1, 0)", x.flag(-1, 0, true), Due.BAD);
    }

    private static void promises() {
        PhoneBench x = with(1000, 0);
        x.phone(0, 0, 255);
        Due.is("promise(0, 0)", x.promise(0, 0), 999);
        Due.is("promise(0, 999)", x.promise(0, 999), 0);
        Due.is("promise(0, 1000)", x.promise(0, 1000), Due.BAD);
        Due.is("promise(0, -1)", x.promise(0, -1), Due.BAD);
        Due.is("promise(1, 5)", x.promise(1, 5), Due.BAD);
        Due.is("promise(-1, 5)", x.promise(-1, 5), Due.BAD);
        Due.is("promise(0, 7)", x.promise(0, 7), 999);
        Due.is("told(0, 12)", x.told(0, 12), 7);
    }

    private static void mending() {
        PhoneBench x = with(2000, 0);
        x.phone(1, 300, 0b11110000);
        x.phone(5, 0, 255);
        x.phone(0, 0, 255);
        x.stock(0, 0, 2);
        x.stock(0, 1, 1);
        x.stock(0, 2, 1);
        String was = Due.state(x);
        Due.is("mend(0, 4)", x.mend(0, 4), Due.BAD);
        Due.is("mend(0, -1)", x.mend(0, -1), Due.BAD);
        Due.is("mend(3, 0)", x.mend(3, 0), Due.BAD);
        Due.is("mend(-1, 0)", x.mend(-1, 0), Due.BAD);
        Due.is("a part is not there", x.mend(0, 0), Due.NO);
        Due.is("locked", x.mend(1, 0), Due.NO);
        Due.holds("refused ones change nothing", was.equals(Due.state(x)));
        x.stock(0, 3, 1);
        Due.is("mend(0, 3)", x.mend(0, 3), 4);
        int[] due = {1, 0, 300, 255, 15, 1, 0, 0, 5, 70, 90, 180 * 85 / 100, 999, 3, 0, 0};
        for (int what = 0; what < 16; what++) {
            Due.is("mended told(0, " + what + ")", x.told(0, what), due[what]);
        }
        Due.is("HARM as it was ahead", x.count(10), -(5 + 8));
        Due.is("has(0, 0)", x.has(0, 0), 1);
        Due.is("has(0, 1)", x.has(0, 1), 0);
        Due.is("has(0, 3)", x.has(0, 3), 0);
        Due.is("not IN", x.mend(0, 1), Due.NO);
        Due.is("mend(2, 0) takes none", x.mend(2, 0), 0);
        Due.is("its bench", x.told(2, 13), 0);
        Due.is("count(3)", x.count(3), 2);
        Due.is("turned from locked", x.turns(1, 0), 5);
        Due.is("mend(1, 2)", x.mend(1, 2), 0);
    }

    private static void stripping() {
        PhoneBench x = with(2000, 0);
        x.phone(4, 0, 0b10000101);
        x.phone(5, 0, 255);
        x.phone(0, 0, 255);
        x.stock(0, 2, 99);
        x.stock(0, 7, 98);
        Due.is("strip(3)", x.strip(3), Due.BAD);
        Due.is("strip(-1)", x.strip(-1), Due.BAD);
        Due.is("those lost not", x.strip(0), 2);
        Due.is("has(0, 0)", x.has(0, 0), 1);
        Due.is("has(0, 2)", x.has(0, 2), 99);
        Due.is("has(0, 7)", x.has(0, 7), 99);
        Due.is("none is GOOD then", x.told(0, 3), 0);
        Due.is("none is FOREIGN", x.told(0, 4), 0);
        Due.is("STATE", x.told(0, 5), 2);
        Due.is("HARM lacks all", x.told(0, 8), 5 + 16 + 9);
        Due.is("SCRAP", x.count(10), 3);
        Due.is("not IN", x.strip(0), Due.NO);
        Due.is("locked ones, too", x.strip(1), 6);
        Due.is("mend(2, 0)", x.mend(2, 0), 0);
        Due.is("a mended one", x.strip(2), Due.NO);
        Due.is("scrap twice, HARM once", x.count(10), 3 + 3 - 5);
    }

    private static void selling() {
        PhoneBench x = with(2003, 1);
        x.stock(0, 0, 1);
        x.phone(0, 100, 254);
        Due.is("sell(1)", x.sell(1), Due.BAD);
        Due.is("sell(-1)", x.sell(-1), Due.BAD);
        x.flag(0, 0, true);
        Due.is("one that is IN", x.sell(0), Due.NO);
        x.mend(0, 2);
        x.flag(0, 0, false);
        Due.is("not wiped", x.sell(0), Due.NO);
        x.flag(0, 0, true);
        x.flag(0, 1, true);
        Due.is("on the list", x.sell(0), Due.NO);
        x.flag(0, 1, false);
        Due.is("till so far", x.count(10), -5);
        x.run(10);
        // 170 * 95 / 100 = 161, less 16
        Due.is("sell(0)", x.sell(0), 145);
        Due.is("till", x.count(10), 140);
        Due.is("STATE", x.told(0, 5), 3);
        Due.is("sold once", x.sell(0), Due.NO);
        Due.is("count(4)", x.count(4), 1);
        Due.is("count(3)", x.count(3), 0);
    }

    private static void holding() {
        PhoneBench x = with(2000, 0);
        for (int i = 0; i < 4; i++) {
            x.phone(0, 0, 255);
            x.flag(i, 0, true);
        }
        Due.is("hold(4)", x.hold(4), Due.BAD);
        Due.is("hold(-1)", x.hold(-1), Due.BAD);
        Due.is("not on the list", x.hold(0), Due.NO);
        x.flag(0, 1, true);
        Due.is("IN", x.hold(0), 1);
        Due.is("STATE", x.told(0, 5), 4);
        Due.is("held already", x.hold(0), Due.NO);
        Due.is("held ones are not mended", x.mend(0, 0), Due.NO);
        Due.is("held ones are not stripped", x.strip(0), Due.NO);
        x.mend(1, 1);
        x.flag(1, 1, true);
        Due.is("MENDED", x.hold(1), 1);
        Due.is("its bench stays", x.told(1, 13), 1);
        x.strip(2);
        x.flag(2, 1, true);
        Due.is("STRIPPED", x.hold(2), Due.NO);
        x.mend(3, 1);
        x.sell(3);
        x.flag(3, 1, true);
        Due.is("SOLD", x.hold(3), Due.NO);
        Due.is("count(2)", x.count(2), 0);
        Due.is("count(3)", x.count(3), 0);
        Due.is("count(4)", x.count(4), 1);
    }
}
