import java.util.ArrayList;
import java.util.List;
import java.util.Set;
import java.util.TreeSet;

/**
 * The document once more, from its first line, in its plainest words: sorts and causes as sets, kinds as classes
 * under one another, rows as Java's own. It takes other ways than the class, so that a slip in one shows in the other.
 */
final class SecondBench {
    private static final int BAD = Due.BAD, NO = Due.NO, FULL = Due.FULL, NONE = Due.NONE;
    private static final int NOTHING = Due.NOTHING, KIND = Due.KIND, INDEX = Due.INDEX, SIZE = Due.SIZE;

    private SecondShop now = new SecondShop();
    private SecondShop image = null;
    private final List<Integer> tape = new ArrayList<>();
    private final Object[] sheets = new Object[4];
    private final Object[] slots = new Object[5];
    private final List<Integer> waiting = new ArrayList<>();

    static Set<Integer> setOf(int bits) {
        Set<Integer> set = new TreeSet<>();
        for (int i = 0; i < 8; i++) {
            if (bits / (1 << i) % 2 == 1) {
                set.add(i);
            }
        }
        return set;
    }

    static int bitsOf(Set<Integer> set) {
        int sum = 0;
        for (int one : set) {
            sum += 1 << one;
        }
        return sum;
    }

    private static boolean out(int v, int least, int most) {
        return v < least || v > most;
    }

    private boolean noModel(int model) {
        return out(model, 0, now.models.size() - 1);
    }

    private boolean noPhone(int phone) {
        return out(phone, 0, now.phones.size() - 1);
    }

    // promises 2 to 6

    int model(int price, int paired) {
        if (out(price, 10, 9999) || out(paired, 0, 255)) {
            return BAD;
        }
        if (now.models.size() == 6) {
            return FULL;
        }
        now.models.add(new SecondShop.Model(price / 10, price % 10, setOf(paired)));
        now.stock.add(new int[8]);
        return now.models.size() - 1;
    }

    int asked(int model, int day) {
        return noModel(model) || out(day, 0, 999) ? BAD : now.asked(model, day);
    }

    int common(int sorts) {
        if (out(sorts, 0, 255)) {
            return BAD;
        }
        int were = bitsOf(now.common);
        now.common = setOf(sorts);
        return were;
    }

    int stock(int model, int sort, int n) {
        if (noModel(model) || out(sort, 0, 7) || out(n, 0, 99)) {
            return BAD;
        }
        int was = now.has(model, sort);
        now.put(model, sort, n);
        return was;
    }

    int has(int model, int sort) {
        return noModel(model) || out(sort, 0, 7) ? BAD : now.has(model, sort);
    }

    // promises 7 to 16

    int phone(int kind, int of, int good) {
        if (out(kind, 0, 5) || out(of, 0, 1000 * now.models.size() - 1) || out(good, 0, 255)) {
            return BAD;
        }
        if (now.phones.size() == 16) {
            return FULL;
        }
        now.phones.add(new SecondPhone(now.phones.size(), kind, of / 1000, of % 1000, setOf(good)));
        return now.phones.size() - 1;
    }

    int told(int phone, int what) {
        if (noPhone(phone) || out(what, 0, 15)) {
            return BAD;
        }
        SecondPhone p = now.phones.get(phone);
        int[] all = {p.kind, p.model, p.cycles, bitsOf(p.good), bitsOf(p.foreign), p.state.ordinal(), p.wiped ? 1 : 0,
            p.onTheList ? 1 : 0, p.as().harm(p), p.as().span(p), p.as().fresh(), now.worth(p), p.promise, p.bench,
            p.cameBack ? 1 : 0, now.foreseen(p) ? 1 : 0};
        return all[what];
    }

    int as(int phone, int kind) {
        if (noPhone(phone) || out(kind, 0, 5)) {
            return BAD;
        }
        SecondPhone p = now.phones.get(phone);
        return p.isA(kind) ? p.cycles : KIND;
    }

    int turns(int phone, int kind) {
        if (noPhone(phone) || out(kind, 0, 5)) {
            return BAD;
        }
        int was = now.phones.get(phone).kind;
        now.phones.get(phone).kind = kind;
        return was;
    }

    int flag(int phone, int what, boolean is) {
        if (noPhone(phone) || out(what, 0, 1)) {
            return BAD;
        }
        SecondPhone p = now.phones.get(phone);
        boolean was;
        if (what == 0) {
            was = p.wiped;
            p.wiped = is;
        } else {
            was = p.onTheList;
            p.onTheList = is;
        }
        return was != is ? 1 : 0;
    }

    int promise(int phone, int v) {
        if (noPhone(phone) || out(v, 0, 999)) {
            return BAD;
        }
        int was = now.phones.get(phone).promise;
        now.phones.get(phone).promise = v;
        return was;
    }

    int mend(int phone, int bench) {
        if (noPhone(phone) || out(bench, 0, 3)) {
            return BAD;
        }
        SecondPhone p = now.phones.get(phone);
        int lacked = p.lacks().size();
        if (!now.mends(p)) {
            return NO;
        }
        p.bench = bench;
        return lacked;
    }

    int strip(int phone) {
        if (noPhone(phone)) {
            return BAD;
        }
        return now.phones.get(phone).state != SecondPhone.State.IN ? NO : now.strips(now.phones.get(phone));
    }

    int sell(int phone) {
        if (noPhone(phone)) {
            return BAD;
        }
        SecondPhone p = now.phones.get(phone);
        if (p.state != SecondPhone.State.MENDED || !p.wiped || p.onTheList || now.gives("sale", p, 1) == 0) {
            return NO;
        }
        int forHowMuch = now.worth(p);
        now.till += forHowMuch;
        p.state = SecondPhone.State.SOLD;
        return forHowMuch;
    }

    int hold(int phone) {
        if (noPhone(phone)) {
            return BAD;
        }
        SecondPhone p = now.phones.get(phone);
        if (!p.onTheList || !p.isHere()) {
            return NO;
        }
        p.state = SecondPhone.State.HELD;
        return 1;
    }

    // promises 17 to 20

    int choose(int phone) {
        if (noPhone(phone)) {
            return BAD;
        }
        if (now.told.contains(phone) || now.phones.get(phone).state != SecondPhone.State.IN) {
            return NO;
        }
        if (now.told.size() == 6) {
            return FULL;
        }
        now.told.add(phone);
        return now.told.size();
    }

    int clear() {
        int were = now.told.size();
        now.told.clear();
        return were;
    }

    int plan(int what) {
        if (out(what, -1, now.told.size() - 1)) {
            return BAD;
        }
        SecondPlans plans = new SecondPlans(now);
        plans.find();
        return what == -1 ? plans.most : plans.best.get(what);
    }

    int noon(int what) {
        if (out(what, -1, now.told.size() - 1)) {
            return BAD;
        }
        SecondPlans plans = new SecondPlans(now);
        plans.findOrder();
        return what == -1 ? plans.least : plans.first.get(what);
    }

    // promises 21 to 25

    int feed(int a, int b, int c) {
        if (tape.size() + 12 > 96) {
            return FULL;
        }
        for (int number : new int[] {a, b, c}) {
            for (int i = 3; i >= 0; i--) {
                tape.add((int) (((number & 0xffffffffL) >> (8 * i)) % 256));
            }
        }
        return tape.size();
    }

    int trim(int n) {
        if (n < 0 || n > tape.size()) {
            return BAD;
        }
        while (tape.size() > n) {
            tape.remove(tape.size() - 1);
        }
        return n;
    }

    int text() {
        SecondText text = new SecondText(tape);
        tape.clear();
        int fault = text.read();
        if (fault >= 0) {
            return -100 - fault;
        }
        if (now.texts.size() == 14) {
            return FULL;
        }
        now.texts.add(text);
        return now.texts.size() - 1;
    }

    int textTold(int text, int what) {
        if (out(text, 0, now.texts.size() - 1) || out(what, 0, 1)) {
            return BAD;
        }
        SecondText one = now.texts.get(text);
        return what == 0 ? SecondText.KEYS.indexOf(one.key) : one.numbersAndNames;
    }

    int why(int key) {
        return out(key, 0, 2) ? BAD : now.counts(SecondText.KEYS.get(key));
    }

    // promises 26 to 31

    int weigh(int cause, int v) {
        if (out(cause, 0, 7) || out(v, 0, 99)) {
            return BAD;
        }
        return now.weights.set(cause, v);
    }

    int check(int yes) {
        if (out(yes, 1, 254)) {
            return BAD;
        }
        if (now.checks.size() == 8) {
            return FULL;
        }
        now.checks.add(setOf(yes));
        return now.checks.size() - 1;
    }

    int says(int check, boolean yes) {
        if (out(check, 0, now.checks.size() - 1)) {
            return BAD;
        }
        Set<Integer> left = SecondShop.side(now.open, now.checks.get(check), yes);
        if (left.isEmpty()) {
            return NO;
        }
        now.open = left;
        return bitsOf(left);
    }

    int anew() {
        int was = bitsOf(now.open);
        now.open = setOf(255);
        return was;
    }

    int next() {
        return now.open.size() < 2 ? NONE : now.next();
    }

    int deep() {
        int deep = now.deep(now.open, now.checks);
        return deep > 8 ? NONE : deep;
    }

    // promises 32 to 35

    int run(int n) {
        if (out(n, 1, 60)) {
            return BAD;
        }
        if (now.day + n > 999) {
            return FULL;
        }
        int were = now.cameBack();
        for (int i = 0; i < n; i++) {
            now.dayGoesBy();
        }
        return now.cameBack() - were;
    }

    int rate(int bench) {
        return out(bench, 0, 3) ? BAD : now.rate(bench);
    }

    int blamed() {
        int worst = NONE;
        for (int bench = 3; bench >= 0; bench--) {
            boolean has = now.rate(bench) != NONE;
            if (has && (worst == NONE || now.rate(bench) >= now.rate(worst))) {
                worst = bench;
            }
        }
        return worst;
    }

    int seed(int v) {
        int was = now.z;
        now.z = v;
        return was;
    }

    // promises 36 to 44

    private static int size(Object row) {
        return row instanceof short[] shorts ? shorts.length : ((float[]) row).length;
    }

    /** NO NUMBER is told as NONE. */
    private static int at(Object row, int place) {
        if (row instanceof short[] shorts) {
            return shorts[place];
        }
        float one = ((float[]) row)[place];
        return Float.isNaN(one) ? NONE : (int) one;
    }

    int sheet(int sheet, int sort, int n) {
        if (out(sheet, 0, 3) || out(sort, -1, 1) || sort >= 0 && n > 24) {
            return BAD;
        }
        if (sort == -1) {
            sheets[sheet] = null;
            return 0;
        }
        if (n < 0) {
            return SIZE;
        }
        sheets[sheet] = sort == 0 ? new short[n] : new float[n];
        return n;
    }

    int mark(int sheet, int place, int v) {
        if (out(sheet, 0, 3)) {
            return BAD;
        }
        if (sheets[sheet] == null) {
            return NOTHING;
        }
        if (out(place, 0, size(sheets[sheet]) - 1)) {
            return INDEX;
        }
        if (sheets[sheet] instanceof short[] shorts) {
            if (v == NONE) {
                return KIND;
            }
            shorts[place] = (short) v;
            return 1;
        }
        if (v != NONE && out(v, -99999, 99999)) {
            return BAD;
        }
        ((float[]) sheets[sheet])[place] = v == NONE ? Float.NaN : v;
        return 1;
    }

    int path(int sheet, int model) {
        if (out(sheet, 0, 3) || noModel(model)) {
            return BAD;
        }
        if (sheets[sheet] == null) {
            return NOTHING;
        }
        for (int i = 0; i < size(sheets[sheet]); i++) {
            int number = at(sheets[sheet], i);
            if (number != NONE && number != now.asked(model, now.day + i)) {
                return i;
            }
        }
        return NONE;
    }

    int fill(int sheet, int model) {
        if (out(sheet, 0, 3) || noModel(model)) {
            return BAD;
        }
        if (sheets[sheet] == null) {
            return NOTHING;
        }
        int came = 0;
        for (int sort = 0; sort < Math.min(8, size(sheets[sheet])); sort++) {
            for (int i = at(sheets[sheet], sort); i > 0; i--) {
                came += now.comes(model, sort) ? 1 : 0;
            }
        }
        return came;
    }

    int copy(int from, int place, int to, int at, int many) {
        if (out(from, 0, 3) || out(to, 0, 3)) {
            return BAD;
        }
        try {
            System.arraycopy(sheets[from], place, sheets[to], at, many);
            return many;
        } catch (NullPointerException missing) {
            return NOTHING;
        } catch (ArrayStoreException twoSorts) {
            return KIND;
        } catch (IndexOutOfBoundsException noSuchPlace) {
            return INDEX;
        }
    }

    int lay(int slot, int thing, int k) {
        if (out(slot, 0, 4) || out(thing, 0, 3) || thing == 1 && noPhone(k) || thing == 2 && out(k, 0, 3)) {
            return BAD;
        }
        if (thing == 2 && sheets[k] == null) {
            return NOTHING;
        }
        Object held = slots[slot];
        switch (thing) {
            case 0 -> slots[slot] = null;
            case 1 -> slots[slot] = now.phones.get(k).copy();
            case 2 -> slots[slot] = sheets[k] instanceof short[] s ? (Object) s.clone() : ((float[]) sheets[k]).clone();
            default -> slots[slot] = Integer.valueOf(k);
        }
        return held == null ? 0 : held instanceof SecondPhone ? 1 : held instanceof Integer ? 3 : 2;
    }

    int ask(int slot, int kind) {
        if (out(slot, 0, 4) || out(kind, 0, 5)) {
            return BAD;
        }
        if (slots[slot] == null) {
            return NOTHING;
        }
        return slots[slot] instanceof SecondPhone p && p.isA(kind) ? p.as().harm(p) : KIND;
    }

    int item(int slot, int place) {
        if (out(slot, 0, 4)) {
            return BAD;
        }
        if (slots[slot] == null) {
            return NOTHING;
        }
        if (slots[slot] instanceof SecondPhone || slots[slot] instanceof Integer) {
            return KIND;
        }
        if (out(place, 0, size(slots[slot]) - 1)) {
            return INDEX;
        }
        return at(slots[slot], place) == NONE ? KIND : at(slots[slot], place);
    }

    int rest(int slot, int n) {
        if (out(slot, 0, 4)) {
            return BAD;
        }
        if (slots[slot] == null) {
            return NOTHING;
        }
        if (!(slots[slot] instanceof Integer number)) {
            return KIND;
        }
        return n == 0 ? NO : (int) ((long) number - (long) number / n * n);
    }

    // promises 45 to 49

    int tell(int v) {
        if (waiting.size() == 60) {
            return FULL;
        }
        waiting.add(v);
        return waiting.size();
    }

    /** THE DAYS TOLD of n; none without AN IMAGE. */
    List<Integer> daysTold(int n) {
        List<Integer> row = new ArrayList<>();
        SecondShop shop = image == null ? new SecondShop() : image.copy();
        for (int i = 0; i < n; i++) {
            shop.dayGoesBy();
            row.add(shop.worthHere());
            row.add(shop.cameBack());
        }
        return row;
    }

    int proves(int n) {
        List<Integer> numbers = new ArrayList<>(waiting);
        waiting.clear();
        if (out(n, 1, 30)) {
            return BAD;
        }
        if (image == null) {
            return NO;
        }
        List<Integer> due = daysTold(n);
        if (numbers.equals(due)) {
            return 0;
        }
        int right = 0;
        while (right < due.size() && right < numbers.size() && numbers.get(right).equals(due.get(right))) {
            right++;
        }
        return 1 + right;
    }

    int keep() {
        image = now.copy();
        return now.day;
    }

    int back() {
        if (image == null) {
            return NO;
        }
        now = image.copy();
        return now.day;
    }

    int count(int what) {
        if (out(what, 0, 14)) {
            return BAD;
        }
        int[] all = {now.models.size(), now.phones.size(), now.howMany(SecondPhone.State.IN),
            now.howMany(SecondPhone.State.MENDED), now.howMany(SecondPhone.State.SOLD), now.cameBack(), now.texts.size(),
            now.checks.size(), bitsOf(now.open), now.told.size(), now.till, now.day, waiting.size(), tape.size(), now.z};
        return all[what];
    }
}
