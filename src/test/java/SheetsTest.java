/** Promises 36 to 44: sheet, mark, path, fill, copy, lay, ask, item, rest. */
public final class SheetsTest {
    private static final int SLOT = 4;

    public static void main(String[] args) {
        sheets();
        marks();
        paths();
        fills();
        copies();
        lays();
        asks();
        items();
        rests();
        Due.end("SheetsTest");
    }

    private static int place(PhoneBench x, int sheet, int at) {
        x.lay(SLOT, 2, sheet);
        return x.item(SLOT, at);
    }

    private static void sheets() {
        PhoneBench x = new PhoneBench();
        Due.is("sheet(4, 0, 0)", x.sheet(4, 0, 0), Due.BAD);
        Due.is("sheet(-1, 0, 0)", x.sheet(-1, 0, 0), Due.BAD);
        Due.is("sheet(0, 2, 0)", x.sheet(0, 2, 0), Due.BAD);
        Due.is("sheet(0, -2, 0)", x.sheet(0, -2, 0), Due.BAD);
        Due.is("sheet(0, 0, 25)", x.sheet(0, 0, 25), Due.BAD);
        Due.is("sheet(0, 1, -1)", x.sheet(0, 1, -1), Due.SIZE);
        Due.is("sheet(0, 1, LEAST)", x.sheet(0, 1, Due.LEAST), Due.SIZE);
        Due.is("sheet(4, 1, -1)", x.sheet(4, 1, -1), Due.BAD);
        Due.is("missing yet", x.mark(0, 0, 0), Due.NOTHING);
        Due.is("sheet(0, 1, 24)", x.sheet(0, 1, 24), 24);
        x.mark(0, 23, 77);
        x.mark(0, 0, 78);
        Due.is("sheet(0, 0, 25) leaves it", x.sheet(0, 0, 25), Due.BAD);
        Due.is("its last place", place(x, 0, 23), 77);
        Due.is("sheet(0, 0, 24)", x.sheet(0, 0, 24), 24);
        Due.is("all 0", place(x, 0, 23), 0);
        Due.is("all 0", place(x, 0, 0), 0);
        Due.is("sheet(0, 0, 0)", x.sheet(0, 0, 0), 0);
        Due.is("no places", x.mark(0, 0, 0), Due.INDEX);
        Due.is("sheet(0, -1, MOST)", x.sheet(0, -1, Due.MOST), 0);
        Due.is("sheet(0, -1, -7)", x.sheet(0, -1, -7), 0);
        Due.is("missing again", x.mark(0, 0, 0), Due.NOTHING);
    }

    private static void marks() {
        PhoneBench x = new PhoneBench();
        x.sheet(0, 0, 3);
        x.sheet(1, 1, 3);
        Due.is("mark(4, 0, 0)", x.mark(4, 0, 0), Due.BAD);
        Due.is("mark(-1, 0, 0)", x.mark(-1, 0, 0), Due.BAD);
        Due.is("mark(2, 0, 0)", x.mark(2, 0, 0), Due.NOTHING);
        Due.is("mark(0, 3, 0)", x.mark(0, 3, 0), Due.INDEX);
        Due.is("mark(0, -1, 0)", x.mark(0, -1, 0), Due.INDEX);
        Due.is("INDEX ahead of KIND", x.mark(0, 3, Due.NONE), Due.INDEX);
        Due.is("INDEX ahead of BAD", x.mark(1, 3, 100000), Due.INDEX);
        Due.is("NONE in shorts", x.mark(0, 0, Due.NONE), Due.KIND);
        int[][] shorts = {{32767, 32767}, {32768, -32768}, {65535, -1}, {65536, 0}, {70000, 4464}, {-32769, 32767},
            {Due.LEAST, 0}, {Due.MOST, -1}, {Due.BAD, (short) Due.BAD}};
        for (int[] one : shorts) {
            Due.is("mark(0, 2, " + one[0] + ")", x.mark(0, 2, one[0]), 1);
            Due.is("lowest 16 bits", place(x, 0, 2), one[1]);
        }
        Due.is("floats 99999", x.mark(1, 1, 99999), 1);
        Due.is("kept", place(x, 1, 1), 99999);
        Due.is("floats -99999", x.mark(1, 1, -99999), 1);
        Due.is("kept", place(x, 1, 1), -99999);
        Due.is("floats 100000", x.mark(1, 1, 100000), Due.BAD);
        Due.is("floats -100000", x.mark(1, 1, -100000), Due.BAD);
        Due.is("kept", place(x, 1, 1), -99999);
        Due.is("NO NUMBER", x.mark(1, 1, Due.NONE), 1);
        Due.is("NO NUMBER is told", place(x, 1, 1), Due.KIND);
        Due.is("places beside it", place(x, 1, 0), 0);
    }

    private static void paths() {
        PhoneBench x = new PhoneBench();
        Due.is("no such model", x.path(0, 0), Due.BAD);
        x.model(1007, 0);
        x.model(1000, 0);
        Due.is("path(4, 0)", x.path(4, 0), Due.BAD);
        Due.is("path(-1, 0)", x.path(-1, 0), Due.BAD);
        Due.is("path(0, 2)", x.path(0, 2), Due.BAD);
        Due.is("path(0, -1)", x.path(0, -1), Due.BAD);
        Due.is("missing", x.path(0, 0), Due.NOTHING);
        x.sheet(0, 0, 0);
        Due.is("no places", x.path(0, 0), Due.NONE);
        x.sheet(0, 0, 24);
        for (int i = 0; i < 24; i++) {
            Due.is("so far", x.path(0, 0), i);
            x.mark(0, i, Math.max(1, 100 - 7 * i));
        }
        Due.is("as asked", x.path(0, 0), Due.NONE);
        Due.is("of another model", x.path(0, 1), 1);
        x.run(14);
        Due.is("from today on", x.path(0, 0), 0);
        x.sheet(1, 1, 4);
        x.mark(1, 0, Due.NONE);
        x.mark(1, 1, 1);
        x.mark(1, 2, Due.NONE);
        Due.is("numbers alone", x.path(1, 0), 3);
        x.mark(1, 3, 1);
        Due.is("numbers alone", x.path(1, 0), Due.NONE);
        x.mark(1, 1, 2);
        Due.is("numbers alone", x.path(1, 0), 1);
        PhoneBench y = new PhoneBench();
        y.model(9999, 0);
        y.sheet(0, 1, 2);
        y.mark(0, 0, 1);
        for (int i = 0; i < 16; i++) {
            y.run(60);
        }
        y.run(39);
        Due.is("beyond the last day", y.path(0, 0), 1);
        y.mark(0, 1, 1);
        Due.is("beyond the last day", y.path(0, 0), Due.NONE);
    }

    private static void fills() {
        PhoneBench x = new PhoneBench();
        Due.is("no such model", x.fill(0, 0), Due.BAD);
        x.model(1000, 0);
        x.model(1000, 0);
        Due.is("fill(4, 0)", x.fill(4, 0), Due.BAD);
        Due.is("fill(-1, 0)", x.fill(-1, 0), Due.BAD);
        Due.is("fill(0, 2)", x.fill(0, 2), Due.BAD);
        Due.is("fill(0, -1)", x.fill(0, -1), Due.BAD);
        Due.is("missing", x.fill(0, 0), Due.NOTHING);
        x.sheet(0, 1, 10);
        int[] v = {3, Due.NONE, -5, 99999, 100, 99, 0, 1, 50, 50};
        for (int i = 0; i < 10; i++) {
            x.mark(0, i, v[i]);
        }
        x.stock(1, 4, 90);
        x.stock(1, 5, 1);
        x.stock(1, 7, 99);
        Due.is("fill(0, 1)", x.fill(0, 1), 3 + 99 + 9 + 98);
        int[] due = {3, 0, 0, 99, 99, 99, 0, 99};
        for (int sort = 0; sort < 8; sort++) {
            Due.is("has(1, " + sort + ")", x.has(1, sort), due[sort]);
            Due.is("has(0, " + sort + ")", x.has(0, sort), 0);
        }
        x.sheet(1, 0, 1);
        x.mark(1, 0, -1);
        Due.is("below 0", x.fill(1, 1), 0);
        x.mark(1, 0, 2);
        x.common(1);
        Due.is("to the common ones", x.fill(1, 1), 2);
        Due.is("has(0, 0)", x.has(0, 0), 2);
        x.sheet(2, 0, 0);
        Due.is("no places", x.fill(2, 0), 0);
    }

    private static void copies() {
        PhoneBench x = new PhoneBench();
        x.sheet(0, 0, 5);
        x.sheet(1, 0, 3);
        x.sheet(2, 1, 5);
        for (int i = 0; i < 5; i++) {
            x.mark(0, i, i + 1);
        }
        Due.is("copy(4, ..)", x.copy(4, 0, 0, 0, 0), Due.BAD);
        Due.is("copy(0, 0, -1, ..)", x.copy(0, 0, -1, 0, 0), Due.BAD);
        Due.is("BAD ahead of NOTHING", x.copy(3, 0, 4, 0, 0), Due.BAD);
        Due.is("copy from a missing one", x.copy(3, 0, 0, 0, 0), Due.NOTHING);
        Due.is("copy to a missing one", x.copy(0, 0, 3, 0, 0), Due.NOTHING);
        Due.is("not of one sort", x.copy(0, 0, 2, 0, 9), Due.KIND);
        int[][] wrong = {{-1, 0, 1}, {0, -1, 1}, {0, 0, -1}, {0, 0, 4}, {3, 0, 3}, {0, 1, 3}, {5, 0, 1}, {6, 0, 0}, {0, 4, 0},
            {Due.MOST, 0, 1}, {1, 1, Due.MOST}, {0, Due.MOST, Due.MOST}, {Due.LEAST, Due.LEAST, Due.LEAST}, {-1, 0, 0}};
        for (int[] one : wrong) {
            Due.is("INDEX", x.copy(0, one[0], 1, one[1], one[2]), Due.INDEX);
        }
        Due.is("none at the place behind the last", x.copy(0, 5, 1, 3, 0), 0);
        Due.is("copy(0, 2, 1, 0, 3)", x.copy(0, 2, 1, 0, 3), 3);
        for (int i = 0; i < 3; i++) {
            Due.is("came", place(x, 1, i), i + 3);
        }
        Due.is("within itself, on", x.copy(0, 0, 0, 1, 4), 4);
        int[] on = {1, 1, 2, 3, 4};
        for (int i = 0; i < 5; i++) {
            Due.is("as they were", place(x, 0, i), on[i]);
        }
        Due.is("within itself, back", x.copy(0, 2, 0, 0, 3), 3);
        int[] back = {2, 3, 4, 3, 4};
        for (int i = 0; i < 5; i++) {
            Due.is("as they were", place(x, 0, i), back[i]);
        }
        x.sheet(3, 1, 2);
        x.mark(2, 4, Due.NONE);
        Due.is("NO NUMBER comes, too", x.copy(2, 4, 3, 1, 1), 1);
        Due.is("NO NUMBER", place(x, 3, 1), Due.KIND);
    }

    private static void lays() {
        PhoneBench x = new PhoneBench();
        x.model(1000, 0);
        x.phone(0, 0, 255);
        x.sheet(3, 0, 1);
        Due.is("lay(5, 0, 0)", x.lay(5, 0, 0), Due.BAD);
        Due.is("lay(-1, 0, 0)", x.lay(-1, 0, 0), Due.BAD);
        Due.is("lay(0, 4, 0)", x.lay(0, 4, 0), Due.BAD);
        Due.is("lay(0, -1, 0)", x.lay(0, -1, 0), Due.BAD);
        Due.is("lay(0, 1, 1)", x.lay(0, 1, 1), Due.BAD);
        Due.is("lay(0, 1, -1)", x.lay(0, 1, -1), Due.BAD);
        Due.is("lay(0, 2, 4)", x.lay(0, 2, 4), Due.BAD);
        Due.is("lay(0, 2, -1)", x.lay(0, 2, -1), Due.BAD);
        Due.is("missing", x.lay(0, 2, 0), Due.NOTHING);
        Due.is("lay(0, 3, LEAST)", x.lay(0, 3, Due.LEAST), 0);
        Due.is("lay(0, 2, 0) leaves it", x.lay(0, 2, 0), Due.NOTHING);
        Due.is("lay(0, 1, 1) leaves it", x.lay(0, 1, 1), Due.BAD);
        Due.is("lay(0, 2, 3)", x.lay(0, 2, 3), 3);
        Due.is("lay(0, 1, 0)", x.lay(0, 1, 0), 2);
        Due.is("lay(0, 0, LEAST)", x.lay(0, 0, Due.LEAST), 1);
        Due.is("lay(0, 0, 0)", x.lay(0, 0, 0), 0);
    }

    private static void asks() {
        PhoneBench x = new PhoneBench();
        x.model(1000, 0);
        x.phone(4, 0, 0b1111);
        x.lay(0, 1, 0);
        x.lay(1, 3, 5);
        Due.is("ask(5, 0)", x.ask(5, 0), Due.BAD);
        Due.is("ask(-1, 0)", x.ask(-1, 0), Due.BAD);
        Due.is("ask(0, 6)", x.ask(0, 6), Due.BAD);
        Due.is("ask(0, -1)", x.ask(0, -1), Due.BAD);
        Due.is("BAD ahead of NOTHING", x.ask(2, 6), Due.BAD);
        Due.is("nothing", x.ask(2, 0), Due.NOTHING);
        Due.is("a number", x.ask(1, 0), Due.KIND);
        int[] due = {22, 22, Due.KIND, Due.KIND, 22, Due.KIND};
        for (int kind = 0; kind < 6; kind++) {
            Due.is("ask(0, " + kind + ")", x.ask(0, kind), due[kind]);
        }
        x.turns(0, 3);
        x.strip(0);
        Due.is("as it was then, for good", x.ask(0, 4), 22);
        Due.is("another now", x.as(0, 4), Due.KIND);
        x.lay(0, 1, 0);
        Due.is("laid again", x.ask(0, 2), 10);
        x.keep();
        x.lay(0, 0, 0);
        x.back();
        Due.is("slots are in no image", x.ask(0, 2), Due.NOTHING);
    }

    private static void items() {
        PhoneBench x = new PhoneBench();
        x.sheet(0, 1, 2);
        x.mark(0, 0, 7);
        x.mark(0, 1, Due.NONE);
        x.lay(0, 2, 0);
        x.lay(1, 3, 5);
        Due.is("item(5, 0)", x.item(5, 0), Due.BAD);
        Due.is("item(-1, 0)", x.item(-1, 0), Due.BAD);
        Due.is("nothing", x.item(2, 0), Due.NOTHING);
        Due.is("a number", x.item(1, 99), Due.KIND);
        Due.is("item(0, 2)", x.item(0, 2), Due.INDEX);
        Due.is("item(0, -1)", x.item(0, -1), Due.INDEX);
        Due.is("item(0, 0)", x.item(0, 0), 7);
        Due.is("NO NUMBER", x.item(0, 1), Due.KIND);
        x.mark(0, 0, 8);
        Due.is("a row of its own", x.item(0, 0), 7);
        x.sheet(0, -1, 0);
        Due.is("as it was then", x.item(0, 0), 7);
        x.sheet(1, 0, 0);
        x.lay(0, 2, 1);
        Due.is("no places", x.item(0, 0), Due.INDEX);
    }

    private static void rests() {
        PhoneBench x = new PhoneBench();
        x.sheet(0, 0, 1);
        x.lay(0, 3, -17);
        x.lay(1, 2, 0);
        x.lay(3, 3, Due.LEAST);
        Due.is("rest(5, 1)", x.rest(5, 1), Due.BAD);
        Due.is("rest(-1, 0)", x.rest(-1, 0), Due.BAD);
        Due.is("nothing", x.rest(2, 0), Due.NOTHING);
        Due.is("a sheet", x.rest(1, 0), Due.KIND);
        Due.is("rest by 0", x.rest(0, 0), Due.NO);
        Due.is("rest(0, 5)", x.rest(0, 5), -2);
        Due.is("rest(0, -5)", x.rest(0, -5), -2);
        Due.is("rest(0, 100)", x.rest(0, 100), -17);
        Due.is("rest by -1", x.rest(3, -1), 0);
        Due.is("rest by LEAST", x.rest(3, Due.LEAST), 0);
        Due.is("rest by MOST", x.rest(3, Due.MOST), -1);
    }
}
