import java.util.ArrayList;
import java.util.List;
import java.util.Set;
import java.util.TreeSet;

/** Of the second bench all that AN IMAGE keeps. */
final class SecondShop {
    record Model(int price, int fall, Set<Integer> paired) {
    }

    int day = 0;
    int till = 0;
    int z = 1;
    List<Model> models = new ArrayList<>();
    List<int[]> stock = new ArrayList<>();
    Set<Integer> common = new TreeSet<>();
    List<SecondPhone> phones = new ArrayList<>();
    List<Integer> told = new ArrayList<>();
    List<SecondText> texts = new ArrayList<>();
    List<Integer> weights = new ArrayList<>(List.of(1, 1, 1, 1, 1, 1, 1, 1));
    List<Set<Integer>> checks = new ArrayList<>();
    Set<Integer> open = SecondBench.setOf(255);

    SecondShop copy() {
        SecondShop other = new SecondShop();
        other.day = day;
        other.till = till;
        other.z = z;
        other.models = new ArrayList<>(models);
        for (int[] row : stock) {
            other.stock.add(row.clone());
        }
        other.common = new TreeSet<>(common);
        for (SecondPhone phone : phones) {
            other.phones.add(phone.copy());
        }
        other.told = new ArrayList<>(told);
        other.texts = new ArrayList<>(texts);
        other.weights = new ArrayList<>(weights);
        other.checks = new ArrayList<>(checks);
        other.open = new TreeSet<>(open);
        return other;
    }

    int asked(int model, int onDay) {
        return Math.max(1, models.get(model).price() - models.get(model).fall() * onDay);
    }

    int has(int model, int sort) {
        return stock.get(common.contains(sort) ? 0 : model)[sort];
    }

    void put(int model, int sort, int n) {
        stock.get(common.contains(sort) ? 0 : model)[sort] = n;
    }

    /** One part comes, or is lost. */
    boolean comes(int model, int sort) {
        if (has(model, sort) == 99) {
            return false;
        }
        put(model, sort, has(model, sort) + 1);
        return true;
    }

    int worth(SecondPhone p) {
        int mended = asked(p.model, day) * p.as().fresh() / 100;
        int had = mended * (50 + p.as().span(p) / 2) / 100;
        int tenth = had / 10;
        for (int sort : p.foreign) {
            if (models.get(p.model).paired().contains(sort)) {
                had -= tenth;
            }
        }
        return Math.max(0, had);
    }

    int counts(String key) {
        for (int i = texts.size() - 1; i >= 0; i--) {
            if (texts.get(i).key.equals(key)) {
                return i;
            }
        }
        return Due.NONE;
    }

    int gives(String key, SecondPhone p, int withoutText) {
        int text = counts(key);
        return text == Due.NONE ? withoutText : texts.get(text).gives(p, day);
    }

    int scrap(SecondPhone p) {
        return Math.max(0, Math.min(99, gives("scrap", p, 3)));
    }

    boolean foreseen(SecondPhone p) {
        return p.bench != Due.NONE && gives("back", p, p.as().span(p) < 20 ? 1 : 0) != 0;
    }

    /** The bench is left to the caller: a PLAN has none. */
    boolean mends(SecondPhone p) {
        if (p.state != SecondPhone.State.IN || p.isA(5)) {
            return false;
        }
        for (int sort : p.lacks()) {
            if (has(p.model, sort) == 0) {
                return false;
            }
        }
        till -= p.as().harm(p);
        for (int sort : p.lacks()) {
            put(p.model, sort, has(p.model, sort) - 1);
            p.good.add(sort);
            p.foreign.add(sort);
        }
        p.state = SecondPhone.State.MENDED;
        return true;
    }

    int strips(SecondPhone p) {
        till += scrap(p);
        int came = 0;
        for (int sort : p.good) {
            came += comes(p.model, sort) ? 1 : 0;
        }
        p.good.clear();
        p.state = SecondPhone.State.STRIPPED;
        return came;
    }

    static Set<Integer> side(Set<Integer> causes, Set<Integer> check, boolean yes) {
        Set<Integer> left = new TreeSet<>(causes);
        if (yes) {
            left.retainAll(check);
        } else {
            left.removeAll(check);
        }
        return left;
    }

    private int weight(Set<Integer> causes) {
        int sum = 0;
        for (int cause : causes) {
            sum += weights.get(cause);
        }
        return sum;
    }

    int next() {
        int best = Due.NONE;
        int least = Due.MOST;
        for (int i = 0; i < checks.size(); i++) {
            int heavier = Math.max(weight(side(open, checks.get(i), true)), weight(side(open, checks.get(i), false)));
            if (heavier < least) {
                best = i;
                least = heavier;
            }
        }
        return best;
    }

    /** A CHECK that was asked already tells nothing more, so that each branch goes on with the others alone. */
    int deep(Set<Integer> causes, List<Set<Integer>> left) {
        if (causes.size() <= 1) {
            return 0;
        }
        int fewest = 99;
        for (Set<Integer> check : left) {
            Set<Integer> yes = side(causes, check, true);
            if (yes.isEmpty() || yes.size() == causes.size()) {
                continue;
            }
            List<Set<Integer>> others = new ArrayList<>(left);
            others.remove(check);
            int worst = Math.max(deep(yes, others), deep(side(causes, check, false), others));
            fewest = Math.min(fewest, 1 + worst);
        }
        return fewest;
    }

    private int draw() {
        z = (int) (z * 1103515245L + 12345L);
        return (int) ((z & 0xffffffffL) / 256);
    }

    void dayGoesBy() {
        day++;
        for (SecondPhone p : phones) {
            if (p.state == SecondPhone.State.SOLD && !p.cameBack) {
                int rest = draw() % 100;
                p.cameBack = foreseen(p) ? rest < 60 - p.as().span(p) : rest < 30 - p.as().span(p);
            }
        }
    }

    int howMany(SecondPhone.State state) {
        return (int) phones.stream().filter(p -> p.state == state).count();
    }

    int cameBack() {
        return (int) phones.stream().filter(p -> p.cameBack).count();
    }

    int rate(int bench) {
        List<SecondPhone> sold =
            phones.stream().filter(p -> p.state == SecondPhone.State.SOLD && p.bench == bench).toList();
        return sold.isEmpty() ? Due.NONE : (int) (100 * sold.stream().filter(p -> p.cameBack).count() / sold.size());
    }

    int worthHere() {
        return phones.stream().filter(p -> p.isHere()).mapToInt(p -> worth(p)).sum();
    }
}
