/** Boundary cases of plans and noon: promises 17 to 20, and what "Terms" 2 says of them. */
public final class PlansEdgeTest {
    private static final int LEFT = 0, MENDED = 1, STRIPPED = 2;

    public static void main(String[] args) {
        Edges.run(PlansEdgeTest.class);
    }

    /** So many PHONES, all told, by numbers. */
    private static PhoneBench chosen(int price, int many, int kind, int good) {
        PhoneBench x = Scene.withModel(price, 0);
        for (int i = 0; i < many; i++) {
            x.phone(kind, 0, good);
            Due.is("choose", x.choose(i), i + 1);
        }
        return x;
    }

    private static void planIs(PhoneBench x, int had, int... acts) {
        Due.is("plan(-1)", x.plan(-1), had);
        for (int i = 0; i < acts.length; i++) {
            Due.is("plan(" + i + ")", x.plan(i), acts[i]);
        }
        Due.is("plan behind the last", x.plan(acts.length), Due.BAD);
    }

    private static void noonIs(PhoneBench x, int late, int... order) {
        Due.is("noon(-1)", x.noon(-1), late);
        for (int i = 0; i < order.length; i++) {
            Due.is("noon(" + i + ")", x.noon(i), order[i]);
        }
        Due.is("noon behind the last", x.noon(order.length), Due.BAD);
    }

    @Edge(at = "Terms 2", says = "A PLAN for up to 6 told PHONES (all IN)")
    static void upToSix() {
        planIs(chosen(2000, 0, 0, 255), 0);
        planIs(chosen(2000, 1, 0, 255), 195, MENDED);
        planIs(chosen(2000, 6, 0, 255), 6 * 195, MENDED, MENDED, MENDED, MENDED, MENDED, MENDED);
        planIs(chosen(2000, 6, 5, 255), 18, STRIPPED, STRIPPED, STRIPPED, STRIPPED, STRIPPED, STRIPPED);
        // of seven PHONES the seventh is not told
        PhoneBench x = chosen(2000, 6, 0, 255);
        x.phone(0, 0, 255);
        Due.is("plan(-1)", x.plan(-1), 6 * 195);
    }

    @Edge(at = "Terms 2", says = "first all that are STRIPPED, then, by numbers, all that are MENDED (as far as STOCK has parts; else the "
        + "PLAN can't be)")
    static void partsForPlans() {
        // the last told one is STRIPPED, and the first one MENDED with its battery
        PhoneBench x = Scene.withModel(2000, 0);
        x.phone(0, 0, 254);
        x.phone(5, 0, 1);
        x.choose(0);
        x.choose(1);
        planIs(x, 198, MENDED, STRIPPED);
        // and likewise, if that one was told first
        x.clear();
        x.choose(1);
        x.choose(0);
        planIs(x, 198, STRIPPED, MENDED);
        PhoneBench y = chosen(2000, 2, 0, 254);
        planIs(y, 6, STRIPPED, STRIPPED);
        y.stock(0, 0, 1);
        // one part for two: MENDED, STRIPPED is as much as STRIPPED, MENDED
        planIs(y, 198, MENDED, STRIPPED);
        y.stock(0, 0, 2);
        planIs(y, 390, MENDED, MENDED);
        PhoneBench z = chosen(2000, 1, 0, 0);
        Scene.stockAll(z, 0, 1);
        planIs(z, 195, MENDED);
        z.stock(0, 7, 0);
        planIs(z, 3, STRIPPED);
        // its own parts do not mend it
        planIs(chosen(2000, 1, 0, 127), 3, STRIPPED);
    }

    @Edge(at = "Terms 2", says = "SCRAP of each STRIPPED, and of each MENDED its WORTH today (behind that) less its HARM (ahead of it; it "
        + "may be below 0).")
    static void whatIsHad() {
        // WORTH 200 less 20 for what is PAIRED and FOREIGN behind that; HARM 5 and 2 ahead of that, 90 of 100
        PhoneBench x = Scene.withModel(2003, 1);
        x.phone(1, 0, 254);
        x.choose(0);
        x.stock(0, 0, 1);
        planIs(x, 162 - 7, MENDED);
        x.run(1);
        planIs(x, 177 - 17 - 7, MENDED);
        Due.text(x, "scrap 99");
        planIs(x, 153, MENDED);
        // WORTH 0 less HARM 10 is below 0: it is better left, or STRIPPED
        PhoneBench y = chosen(20, 1, 2, 255);
        planIs(y, 3, STRIPPED);
        Due.text(y, "scrap 0");
        planIs(y, 0, LEFT);
    }

    private static PhoneBench equalPlans() {
        PhoneBench x = chosen(50, 2, 0, 255);
        Due.text(x, "scrap 0");
        return x;
    }

    @Edge(at = "Terms 2", says = "that with the most together; of several the first (by told ones: left 0, MENDED 1, STRIPPED 2). Nothing "
        + "changes.")
    static void firstOfPlans() {
        // WORTH 5 less HARM 5 is 0, as SCRAP: all nine PLANS have 0
        planIs(equalPlans(), 0, LEFT, LEFT);
        // WORTH 8 less 5 is 3, as SCRAP
        planIs(chosen(80, 2, 0, 255), 6, MENDED, MENDED);
        // one part for two: left, MENDED comes ahead of MENDED, left; by the order told
        PhoneBench x = Scene.withModel(2000, 0);
        x.phone(0, 0, 254);
        x.phone(0, 0, 254);
        x.choose(1);
        x.choose(0);
        x.stock(0, 0, 1);
        Due.text(x, "scrap 0");
        planIs(x, 195, LEFT, MENDED);
        // WORTH 9 less 5 is 4, one more than SCRAP; 7 less 5 is 2
        planIs(chosen(90, 1, 0, 255), 4, MENDED);
        planIs(chosen(70, 1, 0, 255), 3, STRIPPED);
        Edges.refused("plan changes nothing", y -> y.plan(-1), 126);
        Edges.refused("plan changes nothing", y -> y.plan(0), STRIPPED);
        Edges.refused("noon changes nothing", y -> y.noon(-1), 0);
    }

    @Edge(at = "Terms 2", says = "PHONES that are told (the same ones, IN or not any more) wait for one bench, each for HARM minutes")
    static void inOrNotAnyMore() {
        PhoneBench x = chosen(1000, 3, 0, 255);
        for (int i = 0; i < 3; i++) {
            x.promise(i, 0);
        }
        noonIs(x, 5 + 10 + 15, 0, 1, 2);
        x.strip(0);
        x.mend(1, 0);
        x.flag(2, 1, true);
        x.hold(2);
        noonIs(x, 5 + 10 + 15, 0, 1, 2);
        // HARM is as it is now: STRIPPED, it LACKS all
        x.turns(0, 1);
        noonIs(x, 5 + 10 + 31, 1, 2, 0);
    }

    @Edge(at = "Terms 2", says = "each has a PROMISE (minutes 0 .. 999; 999 at first)")
    static void promiseBounds() {
        PhoneBench x = chosen(1000, 1, 5, 255);
        Due.is("999 at first", x.told(0, 12), 999);
        noonIs(x, 0, 0);
        x.promise(0, 99);
        noonIs(x, 0, 0);
        x.promise(0, 98);
        noonIs(x, 1, 0);
        x.promise(0, 0);
        noonIs(x, 99, 0);
        // six LOCKED ones take 594 minutes: with what is PROMISED at first none is late
        noonIs(chosen(1000, 6, 5, 255), 0, 0, 1, 2, 3, 4, 5);
        PhoneBench y = chosen(1000, 6, 5, 255);
        for (int i = 0; i < 6; i++) {
            y.promise(i, 0);
        }
        noonIs(y, 99 * 21, 0, 1, 2, 3, 4, 5);
    }

    @Edge(at = "Terms 2", says = "of all orders that with the least minutes together by which they are late; of several the first (by the order told).")
    static void firstOfOrders() {
        noonIs(chosen(1000, 0, 0, 255), 0);
        PhoneBench x = Scene.withModel(1000, 0);
        for (int i = 0; i < 6; i++) {
            x.phone(0, 0, 255);
        }
        for (int i = 5; i >= 0; i--) {
            x.choose(i);
        }
        noonIs(x, 0, 5, 4, 3, 2, 1, 0);
        // the last order of all: HARM is alike, and each is late unless it is at its own place
        for (int i = 0; i < 6; i++) {
            x.promise(i, 5 * (i + 1));
        }
        noonIs(x, 0, 0, 1, 2, 3, 4, 5);
        x.promise(0, 4);
        noonIs(x, 1, 0, 1, 2, 3, 4, 5);
        // two of them late by the same in either order: the one told first comes first
        PhoneBench y = chosen(1000, 2, 0, 255);
        y.promise(0, 0);
        y.promise(1, 0);
        noonIs(y, 15, 0, 1);
        y.clear();
        y.choose(1);
        y.choose(0);
        noonIs(y, 15, 1, 0);
    }

    @Edge(at = "Promise 17", says = "BAD")
    static void chooseBad() {
        Edges.refusedFor("choose", Due.BAD, PhoneBench::choose, -1, Scene.BUSY_PHONES, 16, Due.LEAST, Due.MOST);
        Edges.refused("choose(0) of none", PhoneBench::new, x -> x.choose(0), Due.BAD);
    }

    @Edge(at = "Promise 17", says = "NO: it is, or it is not IN")
    static void chooseNo() {
        Edges.refusedFor("told already", Due.NO, PhoneBench::choose, Scene.SOAKED_IN, Scene.DROPPED_IN, Scene.LOCKED_IN);
        Edges.refusedFor("not IN", Due.NO, PhoneBench::choose, Scene.MENDED, Scene.STRIPPED, Scene.SOLD, Scene.HELD, Scene.CAME_BACK);
        PhoneBench x = Scene.busy();
        x.strip(Scene.LOCKED_IN);
        Due.is("told already, and not IN any more", x.choose(Scene.LOCKED_IN), Due.NO);
        x.clear();
        Due.is("not IN any more", x.choose(Scene.LOCKED_IN), Due.NO);
        Due.is("told again behind clear", x.choose(Scene.DROPPED_IN), 1);
    }

    @Edge(at = "Promise 17", says = "FULL: 6 are.")
    static void chooseFull() {
        PhoneBench x = chosen(1000, 6, 0, 255);
        x.phone(0, 0, 255);
        Due.is("the seventh", x.choose(6), Due.FULL);
        Due.is("count(9)", x.count(9), 6);
        x.strip(0);
        Due.is("those not IN any more are told all the same", x.choose(6), Due.FULL);
        Due.is("clear", x.clear(), 6);
        Due.is("choose(6)", x.choose(6), 1);
        Edges.refused("choose(6)", Scene::full, y -> y.choose(6), Due.FULL);
    }

    @Edge(at = "Promise 18", says = "No PHONE is told any more: how many were.")
    static void clears() {
        PhoneBench x = new PhoneBench();
        Due.is("none", x.clear(), 0);
        for (int many = 1; many <= 6; many++) {
            PhoneBench y = chosen(1000, many, 0, 255);
            Due.is("clear", y.clear(), many);
            Due.is("count(9)", y.count(9), 0);
            Due.is("plan(0)", y.plan(0), Due.BAD);
            Due.is("noon(0)", y.noon(0), Due.BAD);
            Due.is("clear again", y.clear(), 0);
        }
    }

    @Edge(at = "Promise 19", says = "what -1 what is had, 0 .. 5 what is done with the told one")
    static void planInBounds() {
        PhoneBench x = Scene.withModel(2000, 0);
        for (int i = 0; i < 6; i++) {
            x.phone(i % 2 == 0 ? 0 : 5, 0, 255);
            x.choose(i);
        }
        planIs(x, 3 * 195 + 9, MENDED, STRIPPED, MENDED, STRIPPED, MENDED, STRIPPED);
    }

    @Edge(at = "Promise 19", says = "told ones that are not IN any more are left")
    static void notInAnyMore() {
        PhoneBench x = chosen(2000, 4, 0, 255);
        x.phone(0, 0, 254);
        x.choose(4);
        x.strip(0);
        x.mend(1, 0);
        x.flag(2, 1, true);
        x.hold(2);
        planIs(x, 195 + 195, LEFT, LEFT, LEFT, MENDED, MENDED);
        x.mend(3, 0);
        x.mend(4, 0);
        planIs(x, 0, LEFT, LEFT, LEFT, LEFT, LEFT);
    }

    @Edge(at = "Promise 19", says = "BAD: what (of as many as are told alone).")
    static void planBad() {
        for (int many = 0; many <= 6; many++) {
            int told = many;
            PhoneBench x = chosen(2000, many, 0, 255);
            Due.is("the last of " + many, x.plan(many - 1), many == 0 ? 0 : MENDED);
            Edges.refused("plan(" + many + ")", () -> chosen(2000, told, 0, 255), y -> y.plan(told), Due.BAD);
        }
        Edges.refusedFor("plan", Due.BAD, PhoneBench::plan, -2, 3, 6, Due.LEAST, Due.MOST);
        Edges.refused("plan(6)", Scene::full, y -> y.plan(6), Due.BAD);
    }

    @Edge(at = "Promise 20", says = "what -1 minutes late together, 0 .. 5 the PHONE that is then")
    static void noonInBounds() {
        PhoneBench x = Scene.withModel(1000, 0);
        for (int i = 0; i < 16; i++) {
            x.phone(0, 0, 255);
        }
        int[] told = {15, 3, 9, 0, 12, 7};
        for (int phone : told) {
            x.choose(phone);
        }
        noonIs(x, 0, told);
        x.promise(7, 5);
        // 7 is told last, and must be first
        noonIs(x, 0, 7, 15, 3, 9, 0, 12);
        x.promise(7, 4);
        noonIs(x, 1, 7, 15, 3, 9, 0, 12);
    }

    @Edge(at = "Promise 20", says = "BAD likewise.")
    static void noonBad() {
        for (int many = 0; many <= 6; many++) {
            int told = many;
            PhoneBench x = chosen(2000, many, 0, 255);
            Due.is("the last of " + many, x.noon(many - 1), Math.max(0, many - 1));
            Edges.refused("noon(" + many + ")", () -> chosen(2000, told, 0, 255), y -> y.noon(told), Due.BAD);
        }
        Edges.refusedFor("noon", Due.BAD, PhoneBench::noon, -2, 3, 6, Due.LEAST, Due.MOST);
        Edges.refused("noon(6)", Scene::full, y -> y.noon(6), Due.BAD);
    }
}
