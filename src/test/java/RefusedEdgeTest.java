/** What the document says of all refused calls ("Terms", ahead of 1). */
public final class RefusedEdgeTest {
    public static void main(String[] args) {
        Edges.run(RefusedEdgeTest.class);
    }

    /** What an E gives, read off SCRAP of a PHONE. */
    private static int scrapOf(String e) {
        PhoneBench x = Scene.withPhone(0, 0, 0);
        Due.is("scrap " + e, Due.text(x, "scrap " + e), 0);
        x.strip(0);
        return x.count(10);
    }

    @Edge(at = "Terms 0", says = "/ cuts towards 0")
    static void cuts() {
        Due.is("7/2", scrapOf("7/2"), 3);
        Due.is("-7/2 is -3", scrapOf("10+(0-7)/2"), 7);
        Due.is("7/-2 is -3", scrapOf("10+7/(0-2)"), 7);
        Due.is("-7/-2 is 3", scrapOf("(0-7)/(0-2)"), 3);
        Due.is("-1/2 is 0", scrapOf("10+(0-1)/2"), 10);
        PhoneBench x = new PhoneBench();
        x.lay(0, 3, -7);
        Due.is("the rest goes with that", x.rest(0, 2), -1);
        Due.is("the rest goes with that", x.rest(0, -2), -1);
    }

    private static void first(String call, Edges.Maker maker, Edges.Call one, int want) {
        Edges.refused(call, maker, one, want);
    }

    @Edge(at = "Terms 0", says = "of several the one that stands first with it")
    static void badStandsFirst() {
        first("model: BAD, FULL", Scene::full, x -> x.model(9, 0), Due.BAD);
        first("model: BAD, FULL", Scene::full, x -> x.model(10, 256), Due.BAD);
        first("phone: BAD, FULL", Scene::full, x -> x.phone(6, 0, 0), Due.BAD);
        first("phone: BAD, FULL", Scene::full, x -> x.phone(0, 6000, 0), Due.BAD);
        first("phone: BAD, FULL", Scene::full, x -> x.phone(0, 0, 256), Due.BAD);
        first("check: BAD, FULL", Scene::full, x -> x.check(255), Due.BAD);
        first("run: BAD, FULL", Scene::full, x -> x.run(61), Due.BAD);
        first("run: BAD, FULL", Scene::full, x -> x.run(0), Due.BAD);
        first("choose: BAD, FULL", Scene::full, x -> x.choose(16), Due.BAD);
        first("as: BAD, KIND", Scene::busy, x -> x.as(Scene.DROPPED_IN, 6), Due.BAD);
        first("mend: BAD, NO", Scene::busy, x -> x.mend(Scene.STRIPPED, 4), Due.BAD);
        first("mend: BAD, NO", Scene::busy, x -> x.mend(Scene.LOCKED_IN, -1), Due.BAD);
        first("rate: BAD, NONE", Scene::busy, x -> x.rate(4), Due.BAD);
        first("sheet: BAD, SIZE", Scene::busy, x -> x.sheet(4, 0, -1), Due.BAD);
        first("sheet: BAD, SIZE", Scene::busy, x -> x.sheet(0, 2, -1), Due.BAD);
        first("mark: BAD, NOTHING", Scene::busy, x -> x.mark(4, 0, 0), Due.BAD);
        first("path: BAD, NOTHING", Scene::busy, x -> x.path(Scene.MISSING, 2), Due.BAD);
        first("fill: BAD, NOTHING", Scene::busy, x -> x.fill(Scene.MISSING, 2), Due.BAD);
        first("copy: BAD, NOTHING", Scene::busy, x -> x.copy(Scene.MISSING, 0, 4, 0, 1), Due.BAD);
        first("copy: BAD, NOTHING", Scene::busy, x -> x.copy(-1, 0, Scene.MISSING, 0, 1), Due.BAD);
        first("copy: BAD, INDEX", Scene::busy, x -> x.copy(0, 9, 4, 9, -1), Due.BAD);
        first("lay: BAD, NOTHING", Scene::busy, x -> x.lay(5, 2, Scene.MISSING), Due.BAD);
        first("ask: BAD, NOTHING", Scene::busy, x -> x.ask(Scene.EMPTY, 6), Due.BAD);
        first("ask: BAD, KIND", Scene::busy, x -> x.ask(Scene.OF_NUMBER, -1), Due.BAD);
        first("rest: BAD, NO", Scene::busy, x -> x.rest(5, 0), Due.BAD);
    }

    @Edge(at = "Terms 0", says = "A call that is refused answers one of BAD, NO, FULL, or a FINDING")
    static void ofTwoThatAreNotBad() {
        first("choose: NO, FULL", Scene::full, x -> x.choose(5), Due.NO);
        first("choose: NO, FULL", Scene::full, x -> x.choose(15), Due.NO);
        first("mark: NOTHING, INDEX", Scene::busy, x -> x.mark(Scene.MISSING, -1, Due.NONE), Due.NOTHING);
        first("mark: INDEX, KIND", Scene::busy, x -> x.mark(Scene.SHORTS, 3, Due.NONE), Due.INDEX);
        first("mark: INDEX, BAD", Scene::busy, x -> x.mark(Scene.FLOATS, 4, 100000), Due.INDEX);
        first("copy: NOTHING, KIND", Scene::busy, x -> x.copy(Scene.FLOATS, 0, Scene.MISSING, 0, 1), Due.NOTHING);
        first("copy: NOTHING, INDEX", Scene::busy, x -> x.copy(Scene.MISSING, -1, Scene.FLOATS, 0, -1), Due.NOTHING);
        first("copy: KIND, INDEX", Scene::busy, x -> x.copy(Scene.SHORTS, 9, Scene.FLOATS, 9, -1), Due.KIND);
        first("item: NOTHING, INDEX", Scene::busy, x -> x.item(Scene.EMPTY, -1), Due.NOTHING);
        first("item: KIND, INDEX", Scene::busy, x -> x.item(Scene.OF_NUMBER, -1), Due.KIND);
        first("rest: NOTHING, NO", Scene::busy, x -> x.rest(Scene.EMPTY, 0), Due.NOTHING);
        first("rest: KIND, NO", Scene::busy, x -> x.rest(Scene.OF_PHONE, 0), Due.KIND);
    }

    @Edge(at = "Terms 0", says = "and changes nothing (but the tape and the numbers that wait, where told)")
    static void theTapeAndTheNumbers() {
        Edges.alike("a FAULT uses up the tape alone", () -> {
            PhoneBench x = Scene.busy();
            x.trim(6);
            Due.is("text() with a FAULT", x.text(), -106);
            return x;
        }, () -> {
            PhoneBench x = Scene.busy();
            x.trim(0);
            return x;
        });
        Edges.alike("FULL uses up the tape alone", () -> {
            PhoneBench x = Scene.full();
            Due.is("text() when FULL", x.text(), Due.FULL);
            return x;
        }, () -> {
            PhoneBench x = Scene.full();
            x.trim(0);
            return x;
        });
        Edges.alike("BAD uses up the numbers alone", () -> {
            PhoneBench x = Scene.busy();
            Due.is("proves(0)", x.proves(0), Due.BAD);
            return x;
        }, () -> {
            PhoneBench x = Scene.busy();
            Due.is("proves(2)", x.proves(2), 0);
            return x;
        });
        Edges.alike("NO uses up the numbers alone", () -> {
            PhoneBench x = Scene.full();
            Due.is("proves(1) without an IMAGE", x.proves(1), Due.NO);
            Due.is("no numbers wait", x.count(12), 0);
            return x;
        }, () -> {
            PhoneBench x = Scene.full();
            Due.is("proves(31)", x.proves(31), Due.BAD);
            return x;
        });
    }

    @Edge(at = "Terms 0", says = "NONE: there is none.")
    static void none() {
        Edges.refused("told(0, 13)", x -> x.told(Scene.DROPPED_IN, 13), Due.NONE);
        Edges.refused("why(0)", PhoneBench::new, x -> x.why(0), Due.NONE);
        Edges.refused("next()", PhoneBench::new, PhoneBench::next, Due.NONE);
        Edges.refused("deep()", PhoneBench::new, PhoneBench::deep, Due.NONE);
        Edges.refused("rate(0)", x -> x.rate(0), Due.NONE);
        Edges.refused("blamed()", PhoneBench::new, PhoneBench::blamed, Due.NONE);
        Edges.refused("path(NO_PLACES, 0)", x -> x.path(Scene.NO_PLACES, 0), Due.NONE);
    }
}
