import java.lang.reflect.InvocationTargetException;
import java.lang.reflect.Method;
import java.util.ArrayList;
import java.util.Arrays;
import java.util.Comparator;
import java.util.List;

/** Runs the tests of boundary cases of a class, and tells whether a refused call changed anything. */
final class Edges {
    interface Call {
        int on(PhoneBench x);
    }

    interface Maker {
        PhoneBench made();
    }

    private Edges() {
    }

    /** The tests of a class, by name. */
    static List<Method> of(Class<?> tests) {
        List<Method> found = new ArrayList<>();
        for (Method one : tests.getDeclaredMethods()) {
            if (one.isAnnotationPresent(Edge.class)) {
                found.add(one);
            }
        }
        found.sort(Comparator.comparing(Method::getName));
        return found;
    }

    static void run(Class<?> tests) {
        for (Method one : of(tests)) {
            Edge edge = one.getAnnotation(Edge.class);
            Due.about(one.getName() + " [" + edge.at() + ": " + edge.says() + "]");
            int before = Due.told();
            carryOut(one);
            Due.holds("something is tested", Due.told() > before);
        }
        Due.about("");
        Due.end(tests.getName());
    }

    private static void carryOut(Method test) {
        try {
            test.invoke(null);
        } catch (InvocationTargetException e) {
            Due.holds("throws " + e.getCause() + " " + Arrays.toString(e.getCause().getStackTrace()), false);
        } catch (IllegalAccessException e) {
            Due.holds("can't be called: " + e, false);
        }
    }

    /** The call answers that, and the object is then as one that was made likewise without the call. */
    static void refused(String call, Maker maker, Call refusedOne, int want) {
        alike(call + " changes nothing", () -> {
            PhoneBench x = maker.made();
            Due.is(call, refusedOne.on(x), want);
            return x;
        }, maker);
    }

    /** All that the one answers the other one answers. */
    static void alike(String what, Maker one, Maker other) {
        for (int half = 0; half < 2; half++) {
            Due.same(what, Scene.probe(one.made(), half), Scene.probe(other.made(), half));
        }
    }

    /** A call that is refused of an object on which all is under way. */
    static void refused(String call, Call refusedOne, int want) {
        refused(call, Scene::busy, refusedOne, want);
    }

    /** Refused for each of these numbers. */
    static void refusedFor(String call, int want, OfNumber one, int... numbers) {
        for (int v : numbers) {
            refused(call + " for " + v, x -> one.on(x, v), want);
        }
    }

    interface OfNumber {
        int on(PhoneBench x, int v);
    }
}
