/** Boundary cases of sheets and slots: promises 36 to 44, and what "Terms" 5 says of them. */
public final class SheetsEdgeTest {
    private static final int SHORTS = Scene.SHORTS, FLOATS = Scene.FLOATS, NO_PLACES = Scene.NO_PLACES, MISSING = Scene.MISSING;
    private static final int[] NO_SHEETS = {-1, 4, Due.LEAST, Due.MOST};
    private static final int[] NO_SLOTS = {-1, 5, Due.LEAST, Due.MOST};

    public static void main(String[] args) {
        Edges.run(SheetsEdgeTest.class);
    }

    private static int place(PhoneBench x, int sheet, int at) {
        x.lay(Scene.EMPTY, 2, sheet);
        return x.item(Scene.EMPTY, at);
    }

    private static void rowIs(PhoneBench x, int sheet, int... due) {
        for (int i = 0; i < due.length; i++) {
            Due.is("place " + i, place(x, sheet, i), due[i]);
        }
        Due.is("behind the last place", place(x, sheet, due.length), Due.INDEX);
    }

    @Edge(at = "Terms 5", says = "SHEETS 0 .. 3 are rows of shorts (sort 0) or floats (1; whole numbers), with 0 to 24 places, or MISSING "
        + "(at first).")
    static void sheetBounds() {
        PhoneBench x = Scene.withModel(1000, 0);
        for (int sheet = 0; sheet < 4; sheet++) {
            Due.is("MISSING at first", x.mark(sheet, 0, 0), Due.NOTHING);
            Due.is("MISSING at first", x.lay(0, 2, sheet), Due.NOTHING);
            Due.is("MISSING at first", x.path(sheet, 0), Due.NOTHING);
            Due.is("MISSING at first", x.fill(sheet, 0), Due.NOTHING);
        }
        for (int sheet = 0; sheet < 4; sheet++) {
            Due.is("24 places", x.sheet(sheet, sheet % 2, 24), 24);
            Due.is("the last place", x.mark(sheet, 23, 7 + sheet), 1);
            Due.is("behind it", x.mark(sheet, 24, 7), Due.INDEX);
        }
        for (int sheet = 0; sheet < 4; sheet++) {
            Due.is("each its own", place(x, sheet, 23), 7 + sheet);
            Due.is("0 places", x.sheet(sheet, sheet % 2, 0), 0);
            Due.is("there is no place", x.mark(sheet, 0, 7), Due.INDEX);
            Due.is("it is there", x.lay(0, 2, sheet), 2);
        }
    }

    @Edge(at = "Terms 5", says = "A place of floats may be NO NUMBER.")
    static void noNumber() {
        PhoneBench x = new PhoneBench();
        x.sheet(0, 1, 1);
        Due.is("NO NUMBER", x.mark(0, 0, Due.NONE), 1);
        Due.is("told", place(x, 0, 0), Due.KIND);
        Due.is("a number again", x.mark(0, 0, 0), 1);
        Due.is("told", place(x, 0, 0), 0);
    }

    @Edge(at = "Terms 5", says = "SLOTS 0 .. 4 each hold nothing (at first), a PHONE (as it is then, for good), a SHEET (a row of its own, as "
        + "it was then), or a number.")
    static void slotsHold() {
        PhoneBench x = Scene.withPhone(1, 0, 255);
        for (int slot = 0; slot < 5; slot++) {
            Due.is("nothing, at first", x.rest(slot, 1), Due.NOTHING);
            Due.is("nothing, at first", x.lay(slot, 3, slot + 100), 0);
        }
        for (int slot = 0; slot < 5; slot++) {
            Due.is("each its own", x.rest(slot, 1000), slot + 100);
        }
        x.lay(0, 1, 0);
        x.strip(0);
        x.turns(0, 4);
        Due.is("as it was then: HARM", x.ask(0, 1), 5);
        Due.is("as it was then: KIND", x.ask(0, 4), Due.KIND);
        x.keep();
        x.lay(1, 1, 0);
        x.back();
        Due.is("for good", x.ask(1, 4), 30);
        PhoneBench z = Scene.withModel(1000, 0);
        z.keep();
        z.phone(1, 0, 0);
        z.lay(0, 1, 0);
        z.back();
        Due.is("the PHONE is no more", z.told(0, 0), Due.BAD);
        Due.is("in the SLOT it is", z.ask(0, 0), 21);
        x.sheet(0, 0, 2);
        x.mark(0, 0, 9);
        x.lay(2, 2, 0);
        x.lay(3, 2, 0);
        x.mark(0, 0, 8);
        x.sheet(0, 1, 1);
        Due.is("a row of its own", x.item(2, 0), 9);
        Due.is("with its own places", x.item(3, 1), 0);
        Due.is("with its own places", x.item(3, 2), Due.INDEX);
    }

    @Edge(at = "Terms 5", says = "NOTHING: a SHEET is MISSING, a SLOT holds nothing; INDEX: there is no such place; SIZE: a number of places "
        + "is below 0; KIND: it is none (of a KIND, a number, or another thing).")
    static void findings() {
        PhoneBench x = Scene.busy();
        Due.is("a SHEET is MISSING", x.mark(MISSING, 0, 0), Due.NOTHING);
        Due.is("a SLOT holds nothing", x.item(Scene.EMPTY, 0), Due.NOTHING);
        Due.is("no such place", x.item(Scene.OF_FLOATS, 4), Due.INDEX);
        Due.is("below 0", x.sheet(0, 0, -1), Due.SIZE);
        Due.is("none of a KIND", x.ask(Scene.OF_PHONE, 2), Due.KIND);
        Due.is("no number", x.item(Scene.OF_FLOATS, 1), Due.KIND);
        Due.is("no PHONE", x.ask(Scene.OF_FLOATS, 0), Due.KIND);
    }

    @Edge(at = "Promise 36", says = "A SHEET becomes a row of n places of a sort, all 0")
    static void sheetInBounds() {
        for (int sort = 0; sort < 2; sort++) {
            int[] sizes = {0, 1, 23, 24};
            for (int n : sizes) {
                PhoneBench x = new PhoneBench();
                // ones that were there are gone
                x.sheet(3, 1 - sort, 24);
                for (int i = 0; i < 24; i++) {
                    x.mark(3, i, 50 + i);
                }
                Due.is("sheet(3, " + sort + ", " + n + ")", x.sheet(3, sort, n), n);
                rowIs(x, 3, new int[n]);
                Due.is("NO NUMBER is of floats alone", x.mark(3, 0, Due.NONE), n == 0 ? Due.INDEX : sort == 0 ? Due.KIND : 1);
                Due.is("24 again", x.sheet(3, sort, 24), 24);
                rowIs(x, 3, new int[24]);
            }
        }
    }

    @Edge(at = "Promise 36", says = "(sort -1: MISSING, n any): n (0)")
    static void sheetMissing() {
        int[] any = {0, 24, 25, -1, Due.LEAST, Due.MOST};
        for (int n : any) {
            PhoneBench x = Scene.busy();
            Due.is("sheet(0, -1, " + n + ")", x.sheet(0, -1, n), 0);
            Due.is("MISSING", x.mark(0, 0, 0), Due.NOTHING);
            Due.is("MISSING still", x.sheet(0, -1, n), 0);
            Due.is("the others stay", x.mark(1, 3, 0), 1);
        }
    }

    @Edge(at = "Promise 36", says = "BAD: sheet, sort, n above 24")
    static void sheetBad() {
        Edges.refusedFor("sheet(sheet, 0, 1)", Due.BAD, (x, v) -> x.sheet(v, 0, 1), NO_SHEETS);
        Edges.refusedFor("sheet(sheet, -1, 1)", Due.BAD, (x, v) -> x.sheet(v, -1, 1), NO_SHEETS);
        Edges.refusedFor("sheet(0, sort, 1)", Due.BAD, (x, v) -> x.sheet(0, v, 1), -2, 2, Due.LEAST, Due.MOST);
        Edges.refusedFor("sheet(0, 0, n)", Due.BAD, (x, v) -> x.sheet(0, 0, v), 25, Due.MOST);
        Edges.refusedFor("sheet(0, 1, n)", Due.BAD, (x, v) -> x.sheet(0, 1, v), 25, Due.MOST);
    }

    @Edge(at = "Promise 36", says = "SIZE.")
    static void sheetSize() {
        Edges.refusedFor("sheet(0, 0, n)", Due.SIZE, (x, v) -> x.sheet(0, 0, v), -1, Due.LEAST);
        Edges.refusedFor("sheet(1, 1, n)", Due.SIZE, (x, v) -> x.sheet(1, 1, v), -1, Due.LEAST);
        Edges.refusedFor("sheet(MISSING, 1, n)", Due.SIZE, (x, v) -> x.sheet(MISSING, 1, v), -1, Due.LEAST);
    }

    @Edge(at = "Promise 37", says = "(of shorts its lowest 16 bits, told with their sign;")
    static void lowestBits() {
        int[][] due = {{0, 0}, {32767, 32767}, {32768, -32768}, {32769, -32767}, {65535, -1}, {65536, 0}, {65537, 1}, {70000, 4464},
            {-1, -1}, {-32768, -32768}, {-32769, 32767}, {-65536, 0}, {Due.LEAST, 0}, {Due.MOST, -1}, {99999, 99999 - 131072},
            {100000, 100000 - 131072}, {Due.NONE + 1, (short) (Due.NONE + 1)}, {Due.NONE - 1, (short) (Due.NONE - 1)},
            {Due.BAD, (short) Due.BAD}};
        PhoneBench x = new PhoneBench();
        x.sheet(0, 0, 1);
        for (int[] one : due) {
            Due.is("mark(0, 0, " + one[0] + ")", x.mark(0, 0, one[0]), 1);
            Due.is("told of " + one[0], place(x, 0, 0), one[1]);
        }
    }

    @Edge(at = "Promise 37", says = "of floats v, -99999 .. 99999; NONE: NO NUMBER): 1.")
    static void floatsInBounds() {
        PhoneBench x = new PhoneBench();
        x.sheet(0, 1, 24);
        int[] in = {-99999, 99999, -99998, 99998, 32768, -32769, 65536, 0};
        for (int v : in) {
            Due.is("mark(0, 23, " + v + ")", x.mark(0, 23, v), 1);
            Due.is("told", place(x, 0, 23), v);
        }
        Due.is("NONE", x.mark(0, 0, Due.NONE), 1);
        Due.is("NO NUMBER", place(x, 0, 0), Due.KIND);
    }

    @Edge(at = "Promise 37", says = "BAD: sheet")
    static void markBad() {
        Edges.refusedFor("mark(sheet, 0, 1)", Due.BAD, (x, v) -> x.mark(v, 0, 1), NO_SHEETS);
    }

    @Edge(at = "Promise 37", says = "NOTHING")
    static void markNothing() {
        Edges.refused("MISSING", x -> x.mark(MISSING, 0, 1), Due.NOTHING);
        Edges.refused("any SHEET of a new object", PhoneBench::new, x -> x.mark(0, 0, 1), Due.NOTHING);
    }

    @Edge(at = "Promise 37", says = "INDEX")
    static void markIndex() {
        Edges.refusedFor("mark(SHORTS, place, 1)", Due.INDEX, (x, v) -> x.mark(SHORTS, v, 1), -1, 3, 23, Due.LEAST, Due.MOST);
        Edges.refusedFor("mark(FLOATS, place, 1)", Due.INDEX, (x, v) -> x.mark(FLOATS, v, 1), -1, 4, 23, Due.LEAST, Due.MOST);
        Edges.refusedFor("mark(NO_PLACES, place, 1)", Due.INDEX, (x, v) -> x.mark(NO_PLACES, v, 1), -1, 0, Due.LEAST, Due.MOST);
        PhoneBench y = Scene.busy();
        Due.is("the first place", y.mark(SHORTS, 0, 1), 1);
        Due.is("the last place", y.mark(SHORTS, 2, 2), 1);
        rowIs(y, SHORTS, 1, -7, 2);
    }

    @Edge(at = "Promise 37", says = "KIND: NONE in a row of shorts")
    static void markKind() {
        Edges.refused("NONE in shorts", x -> x.mark(SHORTS, 0, Due.NONE), Due.KIND);
        Edges.refused("NONE in shorts", x -> x.mark(SHORTS, 2, Due.NONE), Due.KIND);
    }

    @Edge(at = "Promise 37", says = "BAD: v of floats.")
    static void markBadFloat() {
        Edges.refusedFor("mark(FLOATS, 0, v)", Due.BAD, (x, v) -> x.mark(FLOATS, 0, v), -100000, 100000, Due.LEAST, Due.MOST, Due.NONE - 1,
            Due.NONE + 1, Due.BAD, Due.KIND);
    }

    private static PhoneBench pathed(int sort, int price, int... row) {
        PhoneBench x = Scene.withModel(price, 0);
        x.sheet(0, sort, row.length);
        for (int i = 0; i < row.length; i++) {
            Due.is("mark", x.mark(0, i, row[i]), 1);
        }
        return x;
    }

    @Edge(at = "Promise 38", says = "The first place (of numbers alone) at which a SHEET is not what is ASKED for a MODEL on the DAY so many "
        + "later (place 0: today).")
    static void paths() {
        Due.is("at the first", pathed(0, 1007, 99, 93, 86).path(0, 0), 0);
        Due.is("at the last", pathed(0, 1007, 100, 93, 85).path(0, 0), 2);
        Due.is("two wrong ones", pathed(0, 1007, 100, 92, 85).path(0, 0), 1);
        Due.is("numbers alone", pathed(1, 1007, Due.NONE, Due.NONE, 85).path(0, 0), 2);
        Due.is("1 at least", pathed(1, 109, 10, 1, 1, 0).path(0, 0), 3);
        PhoneBench x = pathed(1, 9991, 1, 1, 2);
        Scene.pass(x, 998);
        Due.is("beyond the last DAY", x.path(0, 0), 2);
        int[] all = new int[24];
        for (int i = 0; i < 24; i++) {
            all[i] = 999 - 9 * i;
        }
        Due.is("24 places", pathed(0, 9999, all).path(0, 0), Due.NONE);
        all[23]++;
        Due.is("the 24th place", pathed(0, 9999, all).path(0, 0), 23);
    }

    @Edge(at = "Promise 38", says = "BAD")
    static void pathBad() {
        Edges.refusedFor("path(sheet, 0)", Due.BAD, (x, v) -> x.path(v, 0), NO_SHEETS);
        Edges.refusedFor("path(0, model)", Due.BAD, (x, v) -> x.path(0, v), -1, Scene.BUSY_MODELS, 6, Due.LEAST, Due.MOST);
    }

    @Edge(at = "Promise 38", says = "NOTHING")
    static void pathNothing() {
        Edges.refused("MISSING", x -> x.path(MISSING, 0), Due.NOTHING);
        Edges.refused("any SHEET at first", () -> Scene.withModel(1000, 0), x -> x.path(0, 0), Due.NOTHING);
    }

    @Edge(at = "Promise 38", says = "NONE: there is none.")
    static void pathNone() {
        Edges.refused("no places", x -> x.path(NO_PLACES, 0), Due.NONE);
        Due.is("all are", pathed(0, 1007, 100, 93, 86).path(0, 0), Due.NONE);
        Due.is("no numbers", pathed(1, 1007, Due.NONE, Due.NONE).path(0, 0), Due.NONE);
        PhoneBench x = pathed(0, 1007, 93);
        Due.is("not today", x.path(0, 0), 0);
        x.run(1);
        Due.is("today", x.path(0, 0), Due.NONE);
    }

    private static PhoneBench filler(int sort, int... row) {
        PhoneBench x = pathed(sort, 1000, row);
        x.model(1000, 0);
        return x;
    }

    @Edge(at = "Promise 39", says = "SORTS 0, 1, .. (8 at most) have so many more as its places tell")
    static void fills() {
        PhoneBench none = filler(0);
        Due.is("no places", none.fill(0, 0), 0);
        PhoneBench one = filler(0, 4);
        Due.is("one place", one.fill(0, 1), 4);
        Due.is("so many more", one.fill(0, 1), 4);
        Due.is("has(1, 0)", one.has(1, 0), 8);
        Due.is("has(1, 1)", one.has(1, 1), 0);
        Due.is("has(0, 0)", one.has(0, 0), 0);
        PhoneBench eight = filler(0, 1, 2, 3, 4, 5, 6, 7, 8);
        Due.is("eight places", eight.fill(0, 0), 36);
        PhoneBench nine = filler(0, 1, 2, 3, 4, 5, 6, 7, 8, 9);
        Due.is("the ninth is none", nine.fill(0, 0), 36);
        Due.is("has(0, 7)", nine.has(0, 7), 8);
        Due.is("of the next MODEL none", nine.has(1, 0), 0);
        PhoneBench all = filler(1, new int[24]);
        Due.is("24 places", all.fill(0, 0), 0);
    }

    @Edge(at = "Promise 39", says = "(NO NUMBER, or what is below 0: none; those above 99 are lost): how many parts came (those lost not)")
    static void fillBounds() {
        PhoneBench x = filler(1, Due.NONE, -1, -99999, 0, 1, 99, 100, 99999);
        x.stock(0, 2, 50);
        Due.is("fill", x.fill(0, 0), 1 + 99 + 99 + 99);
        int[] due = {0, 0, 50, 0, 1, 99, 99, 99};
        for (int sort = 0; sort < 8; sort++) {
            Due.is("has(0, " + sort + ")", x.has(0, sort), due[sort]);
        }
        Due.is("fill again", x.fill(0, 0), 1);
        PhoneBench y = filler(0, 1, 1, 2, -32768, 32767);
        y.stock(0, 0, 98);
        y.stock(0, 1, 99);
        y.stock(0, 2, 98);
        y.stock(0, 3, 98);
        y.stock(0, 4, 98);
        Due.is("fill", y.fill(0, 0), 1 + 0 + 1 + 0 + 1);
        int[] then = {99, 99, 99, 98, 99};
        for (int sort = 0; sort < 5; sort++) {
            Due.is("has(0, " + sort + ")", y.has(0, sort), then[sort]);
        }
        PhoneBench z = filler(0, 60);
        z.common(1);
        Due.is("COMMON, through MODEL 1", z.fill(0, 1), 60);
        Due.is("COMMON, through MODEL 0", z.fill(0, 0), 39);
        Due.is("it is full for all", z.fill(0, 1), 0);
    }

    @Edge(at = "Promise 39", says = "BAD")
    static void fillBad() {
        Edges.refusedFor("fill(sheet, 0)", Due.BAD, (x, v) -> x.fill(v, 0), NO_SHEETS);
        Edges.refusedFor("fill(0, model)", Due.BAD, (x, v) -> x.fill(0, v), -1, Scene.BUSY_MODELS, 6, Due.LEAST, Due.MOST);
    }

    @Edge(at = "Promise 39", says = "NOTHING")
    static void fillNothing() {
        Edges.refused("MISSING", x -> x.fill(MISSING, 0), Due.NOTHING);
        Edges.refused("any SHEET at first", () -> Scene.withModel(1000, 0), x -> x.fill(3, 0), Due.NOTHING);
    }

    /** SHEETS 0 and 1 of shorts (5 and 3 places), 2 of floats (5 places), 3 MISSING. */
    private static PhoneBench toCopy() {
        PhoneBench x = Scene.withModel(1000, 0);
        x.sheet(0, 0, 5);
        x.sheet(1, 0, 3);
        x.sheet(2, 1, 5);
        for (int i = 0; i < 5; i++) {
            x.mark(0, i, i + 1);
            x.mark(2, i, i == 2 ? Due.NONE : i + 100);
        }
        return x;
    }

    @Edge(at = "Promise 40", says = "So many places of a SHEET come to another one (or the same), as they were: many.")
    static void copies() {
        PhoneBench x = toCopy();
        Due.is("all of the smaller", x.copy(0, 0, 1, 0, 3), 3);
        rowIs(x, 1, 1, 2, 3);
        Due.is("from the last places", x.copy(0, 2, 1, 0, 3), 3);
        rowIs(x, 1, 3, 4, 5);
        Due.is("to the last places", x.copy(1, 0, 0, 2, 3), 3);
        rowIs(x, 0, 1, 2, 3, 4, 5);
        Due.is("one place", x.copy(0, 4, 1, 2, 1), 1);
        Due.is("on within the same", x.copy(0, 0, 0, 1, 4), 4);
        rowIs(x, 0, 1, 1, 2, 3, 4);
        Due.is("back within the same", x.copy(0, 1, 0, 0, 4), 4);
        rowIs(x, 0, 1, 2, 3, 4, 4);
        Due.is("to where they are", x.copy(0, 0, 0, 0, 5), 5);
        rowIs(x, 0, 1, 2, 3, 4, 4);
        Due.is("NO NUMBER", x.copy(2, 2, 2, 4, 1), 1);
        rowIs(x, 2, 100, 101, Due.KIND, 103, Due.KIND);
        x.sheet(0, 0, 24);
        x.sheet(1, 0, 24);
        x.mark(0, 23, 9);
        Due.is("24 places", x.copy(0, 0, 1, 0, 24), 24);
        Due.is("the last", place(x, 1, 23), 9);
        Due.is("25 places", x.copy(0, 0, 1, 0, 25), Due.INDEX);
    }

    @Edge(at = "Promise 40", says = "BAD")
    static void copyBad() {
        Edges.refusedFor("from no SHEET", Due.BAD, (x, v) -> x.copy(v, 0, 0, 0, 0), NO_SHEETS);
        Edges.refusedFor("to no SHEET", Due.BAD, (x, v) -> x.copy(0, 0, v, 0, 0), NO_SHEETS);
    }

    @Edge(at = "Promise 40", says = "NOTHING")
    static void copyNothing() {
        Edges.refused("from a MISSING one", x -> x.copy(MISSING, 0, SHORTS, 0, 0), Due.NOTHING);
        Edges.refused("to a MISSING one", x -> x.copy(SHORTS, 0, MISSING, 0, 0), Due.NOTHING);
        Edges.refused("from a MISSING one to itself", x -> x.copy(MISSING, 0, MISSING, 0, 0), Due.NOTHING);
    }

    @Edge(at = "Promise 40", says = "KIND: they are not of one sort")
    static void copyKind() {
        Edges.refused("shorts to floats", x -> x.copy(SHORTS, 0, FLOATS, 0, 1), Due.KIND);
        Edges.refused("floats to shorts", x -> x.copy(FLOATS, 0, SHORTS, 0, 1), Due.KIND);
        Edges.refused("no places of shorts to floats", x -> x.copy(NO_PLACES, 0, FLOATS, 0, 0), Due.KIND);
    }

    private static void indexOf(int place, int at, int many) {
        Edges.refused("copy(0, " + place + ", 1, " + at + ", " + many + ")", SheetsEdgeTest::toCopy, x -> x.copy(0, place, 1, at, many),
            Due.INDEX);
    }

    @Edge(at = "Promise 40", says = "INDEX (many below 0, too;")
    static void copyIndex() {
        // from 5 places to 3
        int[][] out = {{-1, 0, 1}, {0, -1, 1}, {5, 0, 1}, {0, 3, 1}, {3, 0, 3}, {0, 1, 3}, {0, 0, 4}, {4, 0, 2}, {0, 2, 2}, {0, 0, 6},
            {-1, 0, 6}, {Due.MOST, 0, 1}, {0, Due.MOST, 1}, {Due.LEAST, 0, 1}, {0, Due.LEAST, 1}, {0, 0, Due.MOST}, {1, 1, Due.MOST},
            {Due.MOST, Due.MOST, Due.MOST}, {Due.MOST, 0, Due.MOST}, {Due.LEAST, 0, Due.LEAST}};
        for (int[] one : out) {
            indexOf(one[0], one[1], one[2]);
        }
        int[] below = {-1, -2, Due.LEAST};
        for (int many : below) {
            indexOf(0, 0, many);
            indexOf(1, 1, many);
            indexOf(5, 3, many);
        }
    }

    @Edge(at = "Promise 40", says = "many 0: not at the place behind the last one).")
    static void copyNone() {
        PhoneBench x = toCopy();
        Due.is("none from the first", x.copy(0, 0, 1, 0, 0), 0);
        Due.is("none from behind the last", x.copy(0, 5, 1, 0, 0), 0);
        Due.is("none to behind the last", x.copy(0, 0, 1, 3, 0), 0);
        Due.is("none behind both", x.copy(0, 5, 1, 3, 0), 0);
        Due.is("none within the same", x.copy(0, 5, 0, 5, 0), 0);
        rowIs(x, 0, 1, 2, 3, 4, 5);
        rowIs(x, 1, 0, 0, 0);
        indexOf(6, 0, 0);
        indexOf(0, 4, 0);
        indexOf(-1, 0, 0);
        indexOf(0, -1, 0);
        indexOf(Due.MOST, 0, 0);
        indexOf(0, Due.LEAST, 0);
        PhoneBench y = Scene.busy();
        Due.is("none of none", y.copy(NO_PLACES, 0, NO_PLACES, 0, 0), 0);
        Due.is("one of none", y.copy(NO_PLACES, 0, SHORTS, 0, 1), Due.INDEX);
        Due.is("one to none", y.copy(SHORTS, 0, NO_PLACES, 0, 1), Due.INDEX);
        Due.is("none behind none", y.copy(NO_PLACES, 1, SHORTS, 0, 0), Due.INDEX);
    }

    @Edge(at = "Promise 41", says = "thing 0 nothing, 1 PHONE k, 2 SHEET k, 3 the number k: what it held (0 .. 3)")
    static void lays() {
        PhoneBench x = Scene.busy();
        for (int slot = 0; slot < 5; slot++) {
            x.lay(slot, 0, 0);
            int held = 0;
            // from each thing to each, the same one, too
            int[] things = {0, 1, 1, 2, 2, 3, 3, 1, 0, 2, 0, 3, 2, 1, 3, 0};
            for (int thing : things) {
                Due.is("lay(" + slot + ", " + thing + ", 0)", x.lay(slot, thing, 0), held);
                held = thing;
            }
        }
        int[] any = {Due.LEAST, Due.MOST, -1, 0, Due.NONE};
        for (int k : any) {
            Due.is("nothing, k any", x.lay(0, 0, k), 0);
            Due.is("a number, k any", x.lay(1, 3, k), k == Due.LEAST ? 0 : 3);
            Due.is("that number", x.rest(1, Due.MOST), k % Due.MOST);
        }
        Due.is("the last PHONE", x.lay(0, 1, Scene.BUSY_PHONES - 1), 0);
        Due.is("a SHEET without places", x.lay(0, 2, NO_PLACES), 1);
    }

    @Edge(at = "Promise 41", says = "BAD: slot, thing, k")
    static void layBad() {
        for (int thing = 0; thing < 4; thing++) {
            int one = thing;
            Edges.refusedFor("lay(slot, " + thing + ", 0)", Due.BAD, (x, v) -> x.lay(v, one, 0), NO_SLOTS);
        }
        for (int slot = 0; slot < 5; slot++) {
            int one = slot;
            Edges.refusedFor("lay(" + slot + ", thing, 0)", Due.BAD, (x, v) -> x.lay(one, v, 0), -1, 4, Due.LEAST, Due.MOST);
            Edges.refusedFor("lay(" + slot + ", 1, k)", Due.BAD, (x, v) -> x.lay(one, 1, v), -1, Scene.BUSY_PHONES, 16, Due.LEAST, Due.MOST);
            Edges.refusedFor("lay(" + slot + ", 2, k)", Due.BAD, (x, v) -> x.lay(one, 2, v), NO_SHEETS);
        }
    }

    @Edge(at = "Promise 41", says = "NOTHING: that SHEET is MISSING.")
    static void layNothing() {
        for (int slot = 0; slot < 5; slot++) {
            int one = slot;
            Edges.refused("lay(" + slot + ", 2, MISSING)", x -> x.lay(one, 2, MISSING), Due.NOTHING);
        }
        PhoneBench y = Scene.busy();
        y.sheet(SHORTS, -1, 0);
        Due.is("MISSING now", y.lay(Scene.OF_SHORTS, 2, SHORTS), Due.NOTHING);
        Due.is("what was laid stays", y.item(Scene.OF_SHORTS, 0), 5);
    }

    @Edge(at = "Promise 42", says = "taken for one of a KIND (0 .. 5)")
    static void asks() {
        int[] above = {-1, 0, 0, 2, 1, 0};
        int[] harm = {5, 21, 10, 19, 30, 99};
        for (int kind = 0; kind < 6; kind++) {
            PhoneBench x = Scene.withPhone(kind, 999, 0);
            x.lay(4, 1, 0);
            for (int wanted = 0; wanted < 6; wanted++) {
                boolean is = wanted == 0 || wanted == kind || wanted == above[kind];
                Due.is("ask of " + kind + " for " + wanted, x.ask(4, wanted), is ? harm[kind] : Due.KIND);
            }
        }
    }

    @Edge(at = "Promise 42", says = "BAD")
    static void askBad() {
        Edges.refusedFor("ask(slot, 0)", Due.BAD, (x, v) -> x.ask(v, 0), NO_SLOTS);
        Edges.refusedFor("ask(PHONE, kind)", Due.BAD, (x, v) -> x.ask(Scene.OF_PHONE, v), -1, 6, Due.LEAST, Due.MOST);
    }

    @Edge(at = "Promise 42", says = "NOTHING")
    static void askNothing() {
        Edges.refused("nothing", x -> x.ask(Scene.EMPTY, 0), Due.NOTHING);
        PhoneBench x = Scene.busy();
        x.lay(Scene.OF_PHONE, 0, 0);
        Due.is("nothing any more", x.ask(Scene.OF_PHONE, 0), Due.NOTHING);
    }

    @Edge(at = "Promise 42", says = "KIND: it is no PHONE, or not of that KIND, nor of one under it.")
    static void askKind() {
        Edges.refused("a SHEET", x -> x.ask(Scene.OF_FLOATS, 0), Due.KIND);
        Edges.refused("a number", x -> x.ask(Scene.OF_NUMBER, 0), Due.KIND);
        Edges.refused("CRACKED for WET", x -> x.ask(Scene.OF_PHONE, 2), Due.KIND);
        Edges.refused("CRACKED for LOCKED", x -> x.ask(Scene.OF_PHONE, 5), Due.KIND);
        PhoneBench x = Scene.busy();
        x.lay(Scene.OF_PHONE, 3, 0);
        Due.is("no PHONE any more", x.ask(Scene.OF_PHONE, 0), Due.KIND);
    }

    @Edge(at = "Promise 43", says = "BAD: slot")
    static void itemBad() {
        Edges.refusedFor("item(slot, 0)", Due.BAD, (x, v) -> x.item(v, 0), NO_SLOTS);
    }

    @Edge(at = "Promise 43", says = "NOTHING")
    static void itemNothing() {
        Edges.refused("nothing", x -> x.item(Scene.EMPTY, 0), Due.NOTHING);
        PhoneBench x = Scene.busy();
        x.lay(Scene.OF_FLOATS, 0, 0);
        Due.is("nothing any more", x.item(Scene.OF_FLOATS, 0), Due.NOTHING);
    }

    @Edge(at = "Promise 43", says = "KIND: it is no SHEET")
    static void itemKind() {
        Edges.refused("a PHONE", x -> x.item(Scene.OF_PHONE, 0), Due.KIND);
        Edges.refused("a number", x -> x.item(Scene.OF_NUMBER, 0), Due.KIND);
    }

    @Edge(at = "Promise 43", says = "INDEX")
    static void itemIndex() {
        Edges.refusedFor("item(FLOATS, place)", Due.INDEX, (x, v) -> x.item(Scene.OF_FLOATS, v), -1, 4, 23, 24, Due.LEAST, Due.MOST);
        Edges.refusedFor("item(SHORTS, place)", Due.INDEX, (x, v) -> x.item(Scene.OF_SHORTS, v), -1, 3, 23, 24, Due.LEAST, Due.MOST);
        PhoneBench x = Scene.busy();
        Due.is("the first place", x.item(Scene.OF_FLOATS, 0), 191);
        Due.is("the last place", x.item(Scene.OF_FLOATS, 3), -99999);
        x.lay(0, 2, NO_PLACES);
        Due.is("no places", x.item(0, 0), Due.INDEX);
    }

    @Edge(at = "Promise 43", says = "KIND: NO NUMBER.")
    static void itemNoNumber() {
        Edges.refused("NO NUMBER", x -> x.item(Scene.OF_FLOATS, 1), Due.KIND);
        PhoneBench x = Scene.busy();
        x.mark(Scene.FLOATS, 1, 8);
        Due.is("as it was then", x.item(Scene.OF_FLOATS, 1), Due.KIND);
        x.lay(Scene.OF_FLOATS, 2, FLOATS);
        Due.is("a number now", x.item(Scene.OF_FLOATS, 1), 8);
    }

    @Edge(at = "Promise 44", says = "The rest of the number in a SLOT by n.")
    static void rests() {
        // the number, n, the rest
        int[][] due = {{17, 5, 2}, {-17, 5, -2}, {17, -5, 2}, {-17, -5, -2}, {17, 17, 0}, {17, 18, 17}, {17, 16, 1}, {0, 3, 0}, {17, 1, 0},
            {17, -1, 0}, {Due.LEAST, -1, 0}, {Due.LEAST, 1, 0}, {Due.LEAST, Due.LEAST, 0}, {Due.LEAST, Due.MOST, -1},
            {Due.MOST, Due.LEAST, Due.MOST}, {Due.MOST, Due.MOST, 0}, {Due.LEAST, 3, -2}, {Due.MOST, 2, 1}};
        for (int[] one : due) {
            PhoneBench x = new PhoneBench();
            x.lay(4, 3, one[0]);
            Due.is("rest of " + one[0] + " by " + one[1], x.rest(4, one[1]), one[2]);
        }
    }

    @Edge(at = "Promise 44", says = "NO: n is 0.")
    static void restNo() {
        int[] any = {0, 1, -1, Due.LEAST, Due.MOST};
        for (int v : any) {
            PhoneBench x = new PhoneBench();
            x.lay(4, 3, v);
            Due.is("rest of " + v + " by 0", x.rest(4, 0), Due.NO);
            Due.is("it stays", x.rest(4, Due.MOST), v % Due.MOST);
        }
        Edges.refused("by 0", x -> x.rest(Scene.OF_NUMBER, 0), Due.NO);
    }

    @Edge(at = "Promise 44", says = "BAD: slot")
    static void restBad() {
        Edges.refusedFor("rest(slot, 1)", Due.BAD, (x, v) -> x.rest(v, 1), NO_SLOTS);
    }

    @Edge(at = "Promise 44", says = "NOTHING")
    static void restNothing() {
        Edges.refused("nothing", x -> x.rest(Scene.EMPTY, 1), Due.NOTHING);
    }

    @Edge(at = "Promise 44", says = "KIND: it is no number")
    static void restKind() {
        Edges.refused("a PHONE", x -> x.rest(Scene.OF_PHONE, 1), Due.KIND);
        Edges.refused("a SHEET", x -> x.rest(Scene.OF_SHORTS, 1), Due.KIND);
    }
}
