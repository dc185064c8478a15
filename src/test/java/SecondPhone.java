import java.util.List;
import java.util.Set;
import java.util.TreeSet;

/** A PHONE of the second bench; KINDS are classes, so that "as the one above it" is Java's own super. */
final class SecondPhone {
    enum State { IN, MENDED, STRIPPED, SOLD, HELD }

    static class AsPhone {
        int harm(SecondPhone p) {
            return 5;
        }

        int span(SecondPhone p) {
            return Math.max(0, 100 - p.cycles / 10);
        }

        int fresh() {
            return 100;
        }
    }

    static class AsDropped extends AsPhone {
        @Override
        int harm(SecondPhone p) {
            return super.harm(p) + 2 * p.lacks().size();
        }

        @Override
        int fresh() {
            return 90;
        }
    }

    static class AsWet extends AsPhone {
        @Override
        int harm(SecondPhone p) {
            return 2 * super.harm(p);
        }

        @Override
        int span(SecondPhone p) {
            return super.span(p) / 2;
        }

        @Override
        int fresh() {
            return super.fresh() - 20;
        }
    }

    static class AsSoaked extends AsWet {
        @Override
        int harm(SecondPhone p) {
            return super.harm(p) + p.cycles / 100;
        }

        @Override
        int span(SecondPhone p) {
            return Math.max(0, super.span(p) - 5);
        }

        @Override
        int fresh() {
            return super.fresh() / 2;
        }
    }

    static class AsCracked extends AsDropped {
        @Override
        int harm(SecondPhone p) {
            return super.harm(p) + 9;
        }

        @Override
        int fresh() {
            return super.fresh() - 10;
        }
    }

    static class AsLocked extends AsPhone {
        @Override
        int harm(SecondPhone p) {
            return 99;
        }

        @Override
        int fresh() {
            return 0;
        }
    }

    private static final List<AsPhone> KINDS =
        List.of(new AsPhone(), new AsDropped(), new AsWet(), new AsSoaked(), new AsCracked(), new AsLocked());

    final int number;
    int kind;
    final int model;
    final int cycles;
    Set<Integer> good;
    Set<Integer> foreign = new TreeSet<>();
    State state = State.IN;
    boolean wiped = false;
    boolean onTheList = false;
    int promise = 999;
    int bench = Due.NONE;
    boolean cameBack = false;

    SecondPhone(int number, int kind, int model, int cycles, Set<Integer> good) {
        this.number = number;
        this.kind = kind;
        this.model = model;
        this.cycles = cycles;
        this.good = good;
    }

    SecondPhone copy() {
        SecondPhone other = new SecondPhone(number, kind, model, cycles, new TreeSet<>(good));
        other.foreign = new TreeSet<>(foreign);
        other.state = state;
        other.wiped = wiped;
        other.onTheList = onTheList;
        other.promise = promise;
        other.bench = bench;
        other.cameBack = cameBack;
        return other;
    }

    AsPhone as() {
        return KINDS.get(kind);
    }

    boolean isA(int other) {
        return KINDS.get(other).getClass().isInstance(as());
    }

    boolean isHere() {
        return state == State.IN || state == State.MENDED;
    }

    Set<Integer> lacks() {
        Set<Integer> lacks = SecondBench.setOf(255);
        lacks.removeAll(good);
        return lacks;
    }
}
