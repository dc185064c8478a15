/** Boundary cases of causes and checks: promises 26 to 31, and what "Terms" 4 says of them. */
public final class ChecksEdgeTest {
    public static void main(String[] args) {
        Edges.run(ChecksEdgeTest.class);
    }

    private static PhoneBench with(int... checks) {
        PhoneBench x = new PhoneBench();
        for (int i = 0; i < checks.length; i++) {
            Due.is("check(" + checks[i] + ")", x.check(checks[i]), i);
        }
        return x;
    }

    @Edge(at = "Terms 4", says = "CAUSES 0 .. 7 each have a WEIGHT 0 .. 99 (1 at first).")
    static void weightBounds() {
        PhoneBench x = new PhoneBench();
        for (int cause = 0; cause < 8; cause++) {
            Due.is("1 at first", x.weigh(cause, 99), 1);
            Due.is("99", x.weigh(cause, 0), 99);
            Due.is("0", x.weigh(cause, 50 + cause), 0);
        }
        for (int cause = 0; cause < 8; cause++) {
            Due.is("each its own", x.weigh(cause, 1), 50 + cause);
        }
        Due.is("no CAUSE -1", x.weigh(-1, 1), Due.BAD);
        Due.is("no CAUSE 8", x.weigh(8, 1), Due.BAD);
        Due.is("WEIGHT -1", x.weigh(0, -1), Due.BAD);
        Due.is("WEIGHT 100", x.weigh(0, 100), Due.BAD);
    }

    @Edge(at = "Terms 4", says = "CHECKS, 8 at most, numbered from 0: CAUSES for which each says yes (bits 1 .. 254).")
    static void eightChecks() {
        PhoneBench x = new PhoneBench();
        for (int i = 0; i < 8; i++) {
            Due.is("no such CHECK yet", x.says(i, true), Due.BAD);
            Due.is("check", x.check(1 << i), i);
            Due.is("count(7)", x.count(7), i + 1);
        }
        Due.is("the ninth", x.check(3), Due.FULL);
        Due.is("no CHECK 8", x.says(8, true), Due.BAD);
        Due.is("the last one", x.says(7, true), 128);
        PhoneBench y = new PhoneBench();
        Due.is("0", y.check(0), Due.BAD);
        Due.is("255", y.check(255), Due.BAD);
        Due.is("1", y.check(1), 0);
        Due.is("254", y.check(254), 1);
    }

    @Edge(at = "Terms 4", says = "OPEN are CAUSES (bits; all, at first) that may be yet. A CHECK that says yes leaves of these its own, else the others.")
    static void openOnes() {
        PhoneBench x = with(1, 254, 128);
        Due.is("all, at first", x.count(8), 255);
        Due.is("its own", x.says(0, true), 1);
        x.anew();
        Due.is("the others", x.says(0, false), 254);
        Due.is("of these", x.says(2, false), 126);
        x.anew();
        Due.is("its own", x.says(1, true), 254);
        x.anew();
        Due.is("the others", x.says(1, false), 1);
    }

    @Edge(at = "Terms 4", says = "the CHECK of which the heavier side (WEIGHTS of OPEN ones for which it says yes, or of the others) is "
        + "least; of several the least.")
    static void leastOfSeveral() {
        Due.is("two alike", with(15, 15).next(), 0);
        Due.is("its own and the others", with(1, 15, 240).next(), 1);
        Due.is("one better by one", with(7, 15).next(), 1);
        Due.is("the sides weigh alike", with(3, 252).next(), 0);
        PhoneBench x = with(15, 1);
        x.weigh(0, 8);
        // sides 11 and 4; 8 and 7
        Due.is("by WEIGHTS", x.next(), 1);
        x.weigh(0, 11);
        // sides 14 and 4; 11 and 7
        Due.is("by WEIGHTS", x.next(), 1);
        x.says(0, true);
        x.weigh(0, 0);
        // sides of OPEN ones: 3 and 0; 0 and 3
        Due.is("OPEN ones alone", x.next(), 0);
        PhoneBench y = with(128, 64, 32);
        for (int cause = 0; cause < 8; cause++) {
            y.weigh(cause, 99);
        }
        y.weigh(6, 98);
        // the others weigh 692, 693, 692
        Due.is("the greatest WEIGHTS", y.next(), 0);
        y.weigh(7, 97);
        // the others weigh 692, 691, 689
        Due.is("the last one", y.next(), 2);
        for (int cause = 0; cause < 8; cause++) {
            y.weigh(cause, 0);
        }
        Due.is("all weigh 0", y.next(), 0);
    }

    @Edge(at = "Terms 4", says = "with which, at the worst, one OPEN CAUSE (or none) is left")
    static void atTheWorst() {
        PhoneBench x = with(1, 2, 4, 8, 16, 32, 64);
        Due.is("one by one", x.deep(), 7);
        for (int i = 0; i < 7; i++) {
            x.says(i, false);
            Due.is("one less", x.deep(), 6 - i);
        }
        Due.is("one is left", x.count(8), 128);
        Due.is("halves", with(15, 51, 85).deep(), 3);
        Due.is("halves, each turned", with(240, 204, 170).deep(), 3);
        // 15 parts them into halves, 3 the one half, 48 the other one, and then each pair has its own CHECK
        Due.is("each next one by what was said", with(15, 3, 48, 1, 4, 16, 64).deep(), 3);
        Due.is("a CHECK less", with(15, 3, 48, 1, 4, 16).deep(), Due.NONE);
    }

    @Edge(at = "Promise 26", says = "BAD")
    static void weighBad() {
        Edges.refusedFor("weigh(cause, 5)", Due.BAD, (x, v) -> x.weigh(v, 5), -1, 8, Due.LEAST, Due.MOST);
        Edges.refusedFor("weigh(2, v)", Due.BAD, (x, v) -> x.weigh(2, v), -1, 100, Due.LEAST, Due.MOST);
    }

    @Edge(at = "Promise 26", says = "WEIGHT of a CAUSE becomes v: what it was.")
    static void weighInBounds() {
        Due.is("weigh(2, 0)", Scene.busy().weigh(2, 0), 40);
        Due.is("weigh(7, 99)", Scene.busy().weigh(7, 99), 1);
        Due.is("weigh(0, 1)", Scene.busy().weigh(0, 1), 1);
    }

    @Edge(at = "Promise 27", says = "BAD")
    static void checkBad() {
        Edges.refusedFor("check", Due.BAD, PhoneBench::check, 0, 255, -1, 256, Due.LEAST, Due.MOST);
    }

    @Edge(at = "Promise 27", says = "One more CHECK: its number.")
    static void checkInBounds() {
        Due.is("check(1)", Scene.busy().check(1), 3);
        Due.is("check(254)", Scene.busy().check(254), 3);
        Due.is("check(1) of none", new PhoneBench().check(1), 0);
    }

    @Edge(at = "Promise 27", says = "FULL")
    static void checkFull() {
        Edges.refused("check(1)", Scene::full, x -> x.check(1), Due.FULL);
        Edges.refused("check(254)", Scene::full, x -> x.check(254), Due.FULL);
    }

    @Edge(at = "Promise 28", says = "BAD")
    static void saysBad() {
        for (int i = 0; i < 2; i++) {
            boolean yes = i == 1;
            Edges.refusedFor("says", Due.BAD, (x, v) -> x.says(v, yes), -1, 3, 8, Due.LEAST, Due.MOST);
            Edges.refused("says(0) of none", PhoneBench::new, x -> x.says(0, yes), Due.BAD);
            Edges.refused("says(8)", Scene::full, x -> x.says(8, yes), Due.BAD);
        }
    }

    @Edge(at = "Promise 28", says = "NO: none would be OPEN.")
    static void saysNo() {
        // 15 are OPEN of the busy one
        Edges.refused("says(0, false)", x -> x.says(0, false), Due.NO);
        Due.is("what changes nothing is fine", Scene.busy().says(0, true), 15);
        PhoneBench x = with(1, 254);
        Due.is("one is left", x.says(0, true), 1);
        Due.is("none would be", x.says(1, true), Due.NO);
        Due.is("one is left still", x.count(8), 1);
        Due.is("says(1, false)", x.says(1, false), 1);
        Due.is("none would be", x.says(0, false), Due.NO);
    }

    @Edge(at = "Promise 29", says = "All CAUSES are OPEN again: what was OPEN.")
    static void anewEdges() {
        PhoneBench x = new PhoneBench();
        Due.is("all were", x.anew(), 255);
        x.check(128);
        x.says(0, true);
        Due.is("one was", x.anew(), 128);
        Due.is("all are", x.count(8), 255);
    }

    @Edge(at = "Promise 30", says = "NONE: there are no CHECKS, or fewer than two CAUSES are OPEN.")
    static void nextNone() {
        Edges.refused("no CHECKS", PhoneBench::new, PhoneBench::next, Due.NONE);
        PhoneBench x = with(3, 1);
        Due.is("eight are OPEN", x.next(), 0);
        x.says(0, true);
        Due.is("two are OPEN", x.next(), 1);
        x.says(1, true);
        Due.is("one is OPEN", x.next(), Due.NONE);
        x.anew();
        Due.is("eight are OPEN again", x.next(), 0);
        Due.is("the eighth CHECK", with(1, 1, 1, 1, 1, 1, 1, 15).next(), 7);
        // a CHECK that parts no OPEN ones is one all the same
        PhoneBench y = with(3);
        y.says(0, true);
        Due.is("the only one", y.next(), 0);
    }

    @Edge(at = "Promise 31", says = "NONE: it can't be.")
    static void deepNone() {
        Edges.refused("no CHECKS", PhoneBench::new, PhoneBench::deep, Due.NONE);
        Due.is("six parted of eight", with(1, 2, 4, 8, 16, 32).deep(), Due.NONE);
        Due.is("seven parted of eight", with(1, 2, 4, 8, 16, 32, 64).deep(), 7);
        PhoneBench x = with(3, 12);
        Due.is("0 and 1 are never parted", x.deep(), Due.NONE);
        x.says(0, true);
        Due.is("0 and 1 are never parted", x.deep(), Due.NONE);
        PhoneBench y = with(128);
        Due.is("seven are left at the worst", y.deep(), Due.NONE);
        y.says(0, true);
        Due.is("one is OPEN: none is needed", y.deep(), 0);
        PhoneBench z = with(3, 1);
        z.says(0, true);
        Due.is("two are OPEN", z.deep(), 1);
    }
}
