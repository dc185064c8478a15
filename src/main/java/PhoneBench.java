/**
 * A bench at which broken phones are mended, stripped, sold and led back.
 *
 * Every row that a call needs is made once, in the constructor: all calls of a run share one room,
 * so that the calls themselves make nothing but the TEXTS that they read.
 */
public final class PhoneBench {
    public static final int BAD = -1000000001, NO = -1000000002, FULL = -1000000003, NONE = -1000000005,
        NOTHING = -1000000011, KIND = -1000000012, INDEX = -1000000013, SIZE = -1000000014;

    private static final int MOST_MODELS = 6, MOST_PHONES = 16, MOST_CHOSEN = 6, MOST_TEXTS = 14, MOST_CHECKS = 8;
    private static final int SORTS = 8, ALL_BITS = 255, MOST_STOCK = 99, LAST_DAY = 999;
    private static final int SHEETS = 4, SLOTS = 5, BENCHES = 4, CAUSES = 8;
    private static final int MOST_PLACES = 24, MOST_BYTES = 96, MOST_WAITING = 60, MOST_PROVED = 30;

    private static final int PLAIN = 0, DROPPED = 1, WET = 2, SOAKED = 3, CRACKED = 4, LOCKED = 5, KINDS = 6;
    private static final int[] ABOVE = {-1, PLAIN, PLAIN, WET, DROPPED, PLAIN};
    private static final int IN = 0, MENDED = 1, STRIPPED = 2, SOLD = 3, HELD = 4;
    private static final int LEFT_ALONE = 0, TO_MEND = 1, TO_STRIP = 2, WAYS = 3;
    private static final int SALE = 0, SCRAP = 1, BACK = 2, KEYS = 3;
    private static final int MISSING = -1, SHORTS = 0, FLOATS = 1, MOST_FLOAT = 99999;
    private static final int EMPTY = 0, A_PHONE = 1, A_SHEET = 2, A_NUMBER = 3;

    private final Shop now = new Shop();
    private final Shop image = new Shop();
    private final Shop trial = new Shop();
    private boolean imageKept = false;
    private final Planner planner = new Planner();
    private final int[] depths = new int[ALL_BITS + 1];
    private final TextReader reader = new TextReader();
    private final Sheet[] sheets = new Sheet[SHEETS];
    private final Slot[] slots = new Slot[SLOTS];
    private final int[] waits = new int[MOST_WAITING];
    private int waiting = 0;

    public PhoneBench() {
        for (int i = 0; i < SHEETS; i++) {
            sheets[i] = new Sheet();
        }
        for (int i = 0; i < SLOTS; i++) {
            slots[i] = new Slot();
        }
    }

    private static boolean within(int v, int least, int most) {
        return least <= v && v <= most;
    }

    private boolean isModel(int model) {
        return within(model, 0, now.modelCount - 1);
    }

    private boolean isPhone(int phone) {
        return within(phone, 0, now.phoneCount - 1);
    }

    private static boolean isKind(int kind) {
        return within(kind, 0, KINDS - 1);
    }

    private static boolean isSort(int sort) {
        return within(sort, 0, SORTS - 1);
    }

    private static boolean isSheet(int sheet) {
        return within(sheet, 0, SHEETS - 1);
    }

    private static boolean isSlot(int slot) {
        return within(slot, 0, SLOTS - 1);
    }

    // ---- models, stock

    public int model(int price, int paired) {
        if (!within(price, 10, 9999) || !within(paired, 0, ALL_BITS)) {
            return BAD;
        }
        if (now.modelCount >= MOST_MODELS) {
            return FULL;
        }
        return now.addModel(price / 10, price % 10, paired);
    }

    public int asked(int model, int day) {
        if (!isModel(model) || !within(day, 0, LAST_DAY)) {
            return BAD;
        }
        return now.models[model].askedOn(day);
    }

    public int common(int sorts) {
        if (!within(sorts, 0, ALL_BITS)) {
            return BAD;
        }
        int was = now.parts.commonSorts;
        now.parts.commonSorts = sorts;
        return was;
    }

    public int stock(int model, int sort, int n) {
        if (!isModel(model) || !isSort(sort) || !within(n, 0, MOST_STOCK)) {
            return BAD;
        }
        return now.parts.setTo(model, sort, n);
    }

    public int has(int model, int sort) {
        if (!isModel(model) || !isSort(sort)) {
            return BAD;
        }
        return now.parts.of(model, sort);
    }

    // ---- phones

    public int phone(int kind, int of, int good) {
        if (!isKind(kind) || of < 0 || !isModel(of / 1000) || !within(good, 0, ALL_BITS)) {
            return BAD;
        }
        if (now.phoneCount >= MOST_PHONES) {
            return FULL;
        }
        return now.addPhone(kind, of / 1000, of % 1000, good);
    }

    public int told(int phone, int what) {
        if (!isPhone(phone) || !within(what, 0, 15)) {
            return BAD;
        }
        Phone one = now.phones[phone];
        switch (what) {
            case 8: return one.harm();
            case 9: return one.span();
            case 10: return one.fresh();
            case 11: return now.worth(one);
            case 15: return now.isForeseen(one) ? 1 : 0;
            default: return one.fact(what);
        }
    }

    public int as(int phone, int kind) {
        if (!isPhone(phone) || !isKind(kind)) {
            return BAD;
        }
        Phone one = now.phones[phone];
        return one.isOf(kind) ? one.cycles : KIND;
    }

    public int turns(int phone, int kind) {
        if (!isPhone(phone) || !isKind(kind)) {
            return BAD;
        }
        Phone one = now.phones[phone];
        int was = one.kind;
        one.kind = kind;
        return was;
    }

    public int flag(int phone, int what, boolean is) {
        if (!isPhone(phone) || !within(what, 0, 1)) {
            return BAD;
        }
        Phone one = now.phones[phone];
        boolean was = what == 0 ? one.wiped : one.listed;
        if (what == 0) {
            one.wiped = is;
        } else {
            one.listed = is;
        }
        return was == is ? 0 : 1;
    }

    public int promise(int phone, int v) {
        if (!isPhone(phone) || !within(v, 0, 999)) {
            return BAD;
        }
        Phone one = now.phones[phone];
        int was = one.promised;
        one.promised = v;
        return was;
    }

    public int mend(int phone, int bench) {
        if (!isPhone(phone) || !within(bench, 0, BENCHES - 1)) {
            return BAD;
        }
        return now.mendAt(now.phones[phone], bench);
    }

    public int strip(int phone) {
        return isPhone(phone) ? now.stripDown(now.phones[phone]) : BAD;
    }

    public int sell(int phone) {
        return isPhone(phone) ? now.sellToday(now.phones[phone]) : BAD;
    }

    public int hold(int phone) {
        if (!isPhone(phone)) {
            return BAD;
        }
        Phone one = now.phones[phone];
        if (!one.listed || !one.isInOrMended()) {
            return NO;
        }
        one.state = HELD;
        return 1;
    }

    // ---- plans, noon

    public int choose(int phone) {
        if (!isPhone(phone)) {
            return BAD;
        }
        if (now.isChosen(phone) || now.phones[phone].state != IN) {
            return NO;
        }
        if (now.chosenCount >= MOST_CHOSEN) {
            return FULL;
        }
        now.chosen[now.chosenCount] = phone;
        now.chosenCount++;
        return now.chosenCount;
    }

    public int clear() {
        int were = now.chosenCount;
        now.chosenCount = 0;
        return were;
    }

    public int plan(int what) {
        if (!within(what, -1, now.chosenCount - 1)) {
            return BAD;
        }
        planner.findPlan(now);
        return what < 0 ? planner.had : planner.best[what];
    }

    public int noon(int what) {
        if (!within(what, -1, now.chosenCount - 1)) {
            return BAD;
        }
        planner.findOrder(now);
        return what < 0 ? planner.late : now.chosen[planner.best[what]];
    }

    // ---- laws

    public int feed(int a, int b, int c) {
        if (reader.length > MOST_BYTES - 12) {
            return FULL;
        }
        reader.takeBytes(a);
        reader.takeBytes(b);
        reader.takeBytes(c);
        return reader.length;
    }

    public int trim(int n) {
        if (!within(n, 0, reader.length)) {
            return BAD;
        }
        reader.length = n;
        return n;
    }

    public int text() {
        int fault = reader.readTape();
        reader.length = 0;
        if (fault >= 0) {
            return -100 - fault;
        }
        if (now.laws.textCount >= MOST_TEXTS) {
            return FULL;
        }
        return now.laws.addText(reader.textRead());
    }

    public int textTold(int text, int what) {
        if (!within(text, 0, now.laws.textCount - 1) || !within(what, 0, 1)) {
            return BAD;
        }
        Text one = now.laws.texts[text];
        if (one == null) {
            return BAD;
        }
        return what == 0 ? one.key : one.leaves;
    }

    public int why(int key) {
        return within(key, 0, KEYS - 1) ? now.laws.counting[key] : BAD;
    }

    // ---- causes, checks

    public int weigh(int cause, int v) {
        if (!within(cause, 0, CAUSES - 1) || !within(v, 0, 99)) {
            return BAD;
        }
        int was = now.causes.weights[cause];
        now.causes.weights[cause] = v;
        return was;
    }

    public int check(int yes) {
        if (!within(yes, 1, ALL_BITS - 1)) {
            return BAD;
        }
        if (now.causes.checkCount >= MOST_CHECKS) {
            return FULL;
        }
        now.causes.checks[now.causes.checkCount] = yes;
        now.causes.checkCount++;
        return now.causes.checkCount - 1;
    }

    public int says(int check, boolean yes) {
        if (!within(check, 0, now.causes.checkCount - 1)) {
            return BAD;
        }
        int side = now.causes.checks[check];
        int left = now.causes.open & (yes ? side : ~side);
        if (left == 0) {
            return NO;
        }
        now.causes.open = left;
        return left;
    }

    public int anew() {
        int was = now.causes.open;
        now.causes.open = ALL_BITS;
        return was;
    }

    public int next() {
        return Integer.bitCount(now.causes.open) < 2 ? NONE : now.causes.mostTelling();
    }

    public int deep() {
        return now.causes.fewestChecks(depths);
    }

    // ---- days, returns

    public int run(int n) {
        if (!within(n, 1, 60)) {
            return BAD;
        }
        if (now.day + n > LAST_DAY) {
            return FULL;
        }
        int came = 0;
        for (int i = 0; i < n; i++) {
            came += now.passDay();
        }
        return came;
    }

    public int rate(int bench) {
        return within(bench, 0, BENCHES - 1) ? now.rateOf(bench) : BAD;
    }

    public int blamed() {
        int worst = NONE;
        int worstRate = -1;
        for (int bench = 0; bench < BENCHES; bench++) {
            int its = now.rateOf(bench);
            if (its > worstRate) {
                worst = bench;
                worstRate = its;
            }
        }
        return worst;
    }

    public int seed(int v) {
        int was = now.z;
        now.z = v;
        return was;
    }

    // ---- sheets, slots

    public int sheet(int sheet, int sort, int n) {
        if (!isSheet(sheet) || !within(sort, MISSING, FLOATS)) {
            return BAD;
        }
        if (sort == MISSING) {
            sheets[sheet].layOut(MISSING, 0);
            return 0;
        }
        if (n > MOST_PLACES) {
            return BAD;
        }
        if (n < 0) {
            return SIZE;
        }
        sheets[sheet].layOut(sort, n);
        return n;
    }

    public int mark(int sheet, int place, int v) {
        if (!isSheet(sheet)) {
            return BAD;
        }
        Sheet row = sheets[sheet];
        if (row.sort == MISSING) {
            return NOTHING;
        }
        if (!within(place, 0, row.size - 1)) {
            return INDEX;
        }
        if (row.sort == SHORTS && v == NONE) {
            return KIND;
        }
        if (row.sort == FLOATS && v != NONE && !within(v, -MOST_FLOAT, MOST_FLOAT)) {
            return BAD;
        }
        row.places[place] = row.sort == SHORTS ? (short) v : v;
        return 1;
    }

    public int path(int sheet, int model) {
        if (!isSheet(sheet) || !isModel(model)) {
            return BAD;
        }
        Sheet row = sheets[sheet];
        if (row.sort == MISSING) {
            return NOTHING;
        }
        for (int i = 0; i < row.size; i++) {
            if (row.places[i] != NONE && row.places[i] != now.models[model].askedOn(now.day + i)) {
                return i;
            }
        }
        return NONE;
    }

    public int fill(int sheet, int model) {
        if (!isSheet(sheet) || !isModel(model)) {
            return BAD;
        }
        Sheet row = sheets[sheet];
        if (row.sort == MISSING) {
            return NOTHING;
        }
        int came = 0;
        for (int sort = 0; sort < SORTS && sort < row.size; sort++) {
            // NO NUMBER is kept as NONE, which is below 0, too
            came += now.parts.addUpTo(model, sort, Math.max(0, row.places[sort]));
        }
        return came;
    }

    public int copy(int from, int place, int to, int at, int many) {
        if (!isSheet(from) || !isSheet(to)) {
            return BAD;
        }
        Sheet source = sheets[from];
        Sheet target = sheets[to];
        if (source.sort == MISSING || target.sort == MISSING) {
            return NOTHING;
        }
        if (source.sort != target.sort) {
            return KIND;
        }
        if (!source.hasRange(place, many) || !target.hasRange(at, many)) {
            return INDEX;
        }
        System.arraycopy(source.places, place, target.places, at, many);
        return many;
    }

    public int lay(int slot, int thing, int k) {
        if (!isSlot(slot) || !isThing(thing, k)) {
            return BAD;
        }
        if (thing == A_SHEET && sheets[k].sort == MISSING) {
            return NOTHING;
        }
        Slot one = slots[slot];
        int was = one.holds;
        one.holds = thing;
        switch (thing) {
            case A_PHONE: one.phone.become(now.phones[k]); break;
            case A_SHEET: one.row.become(sheets[k]); break;
            case A_NUMBER: one.number = k; break;
            default: break;
        }
        return was;
    }

    private boolean isThing(int thing, int k) {
        switch (thing) {
            case A_PHONE: return isPhone(k);
            case A_SHEET: return isSheet(k);
            default: return thing == EMPTY || thing == A_NUMBER;
        }
    }

    /** What stands in the way of taking what a SLOT holds for that thing, or 0. */
    private int slotFinding(int slot, int thing) {
        if (slots[slot].holds == EMPTY) {
            return NOTHING;
        }
        return slots[slot].holds == thing ? 0 : KIND;
    }

    public int ask(int slot, int kind) {
        if (!isSlot(slot) || !isKind(kind)) {
            return BAD;
        }
        int finding = slotFinding(slot, A_PHONE);
        if (finding != 0) {
            return finding;
        }
        Phone one = slots[slot].phone;
        return one.isOf(kind) ? one.harm() : KIND;
    }

    public int item(int slot, int place) {
        if (!isSlot(slot)) {
            return BAD;
        }
        int finding = slotFinding(slot, A_SHEET);
        if (finding != 0) {
            return finding;
        }
        Sheet row = slots[slot].row;
        if (!within(place, 0, row.size - 1)) {
            return INDEX;
        }
        return row.places[place] == NONE ? KIND : row.places[place];
    }

    public int rest(int slot, int n) {
        if (!isSlot(slot)) {
            return BAD;
        }
        int finding = slotFinding(slot, A_NUMBER);
        if (finding != 0) {
            return finding;
        }
        return n == 0 ? NO : slots[slot].number % n;
    }

    // ---- rows, images

    public int tell(int v) {
        if (waiting >= MOST_WAITING) {
            return FULL;
        }
        waits[waiting] = v;
        waiting++;
        return waiting;
    }

    public int proves(int n) {
        int numbers = waiting;
        waiting = 0;
        if (!within(n, 1, MOST_PROVED)) {
            return BAD;
        }
        if (!imageKept) {
            return NO;
        }
        trial.become(image);
        for (int at = 0; at < 2 * n; at += 2) {
            trial.passDay();
            if (!isTold(at, numbers, trial.worthOnHand())) {
                return 1 + at;
            }
            if (!isTold(at + 1, numbers, trial.returnedOf(NONE))) {
                return 2 + at;
            }
        }
        return numbers > 2 * n ? 1 + 2 * n : 0;
    }

    private boolean isTold(int at, int numbers, int v) {
        return within(at, 0, numbers - 1) && waits[at] == v;
    }

    public int keep() {
        image.become(now);
        imageKept = true;
        return now.day;
    }

    public int back() {
        if (!imageKept) {
            return NO;
        }
        now.become(image);
        return now.day;
    }

    public int count(int what) {
        switch (what) {
            case 0: return now.modelCount;
            case 1: return now.phoneCount;
            case 2: return now.inState(IN);
            case 3: return now.inState(MENDED);
            case 4: return now.inState(SOLD);
            case 5: return now.returnedOf(NONE);
            case 6: return now.laws.textCount;
            case 7: return now.causes.checkCount;
            case 8: return now.causes.open;
            case 9: return now.chosenCount;
            case 10: return now.till;
            case 11: return now.day;
            case 12: return waiting;
            case 13: return reader.length;
            case 14: return now.z;
            default: return BAD;
        }
    }

    private static final class Model {
        int price = 1;
        int fall = 0;
        int paired = 0;

        int askedOn(int day) {
            return Math.max(1, price - fall * day);
        }

        void become(Model other) {
            price = other.price;
            fall = other.fall;
            paired = other.paired;
        }
    }

    /** STOCK of all MODELS: a MODEL's own number of a SORT stays under that of MODEL 0 while the SORT is COMMON. */
    private static final class Stock {
        final int[] counts = new int[MOST_MODELS * SORTS];
        int commonSorts = 0;

        private int cell(int model, int sort) {
            return (commonSorts >> sort & 1) == 1 ? sort : model * SORTS + sort;
        }

        int of(int model, int sort) {
            return counts[cell(model, sort)];
        }

        int setTo(int model, int sort, int n) {
            int at = cell(model, sort);
            int was = counts[at];
            counts[at] = n;
            return was;
        }

        /** How many of the n came: those above the most are lost. */
        int addUpTo(int model, int sort, int n) {
            int was = of(model, sort);
            int came = Math.min(n, MOST_STOCK - was);
            setTo(model, sort, was + came);
            return came;
        }

        int addEach(int model, int sorts) {
            int came = 0;
            for (int sort = 0; sort < SORTS; sort++) {
                if ((sorts >> sort & 1) == 1) {
                    came += addUpTo(model, sort, 1);
                }
            }
            return came;
        }

        /** Takes one of each, or nothing at all if one is not there. */
        boolean takeEach(int model, int sorts) {
            for (int sort = 0; sort < SORTS; sort++) {
                if ((sorts >> sort & 1) == 1 && of(model, sort) == 0) {
                    return false;
                }
            }
            for (int sort = 0; sort < SORTS; sort++) {
                if ((sorts >> sort & 1) == 1) {
                    setTo(model, sort, of(model, sort) - 1);
                }
            }
            return true;
        }

        void become(Stock other) {
            System.arraycopy(other.counts, 0, counts, 0, counts.length);
            commonSorts = other.commonSorts;
        }
    }

    private static final class Phone {
        private static final int PLAIN_HARM = 5, PLAIN_FRESH = 100;

        int kind = PLAIN;
        int model = 0;
        int cycles = 0;
        int good = 0;
        int foreign = 0;
        int state = IN;
        boolean wiped = false;
        boolean listed = false;
        int promised = 999;
        int bench = NONE;
        boolean returned = false;

        /** Rows are used again behind an image, so that nothing of an earlier PHONE may stay. */
        void comeIn(int newKind, int newModel, int newCycles, int newGood) {
            kind = newKind;
            model = newModel;
            cycles = newCycles;
            good = newGood;
            foreign = 0;
            state = IN;
            wiped = false;
            listed = false;
            promised = 999;
            bench = NONE;
            returned = false;
        }

        void become(Phone other) {
            kind = other.kind;
            model = other.model;
            cycles = other.cycles;
            good = other.good;
            foreign = other.foreign;
            state = other.state;
            wiped = other.wiped;
            listed = other.listed;
            promised = other.promised;
            bench = other.bench;
            returned = other.returned;
        }

        int fact(int what) {
            switch (what) {
                case 0: return kind;
                case 1: return model;
                case 2: return cycles;
                case 3: return good;
                case 4: return foreign;
                case 5: return state;
                case 6: return wiped ? 1 : 0;
                case 7: return listed ? 1 : 0;
                case 12: return promised;
                case 13: return bench;
                case 14: return returned ? 1 : 0;
                default: return BAD;
            }
        }

        boolean isOf(int wanted) {
            int at = kind;
            for (int steps = 0; steps < KINDS && at >= 0 && at < ABOVE.length; steps++) {
                if (at == wanted) {
                    return true;
                }
                at = ABOVE[at];
            }
            return false;
        }

        boolean isInOrMended() {
            return state == IN || state == MENDED;
        }

        int lacks() {
            return ALL_BITS & ~good;
        }

        private int droppedHarm() {
            return PLAIN_HARM + 2 * Integer.bitCount(lacks());
        }

        int harm() {
            switch (kind) {
                case DROPPED: return droppedHarm();
                case CRACKED: return droppedHarm() + 9;
                case WET: return 2 * PLAIN_HARM;
                case SOAKED: return 2 * PLAIN_HARM + cycles / 100;
                case LOCKED: return 99;
                default: return PLAIN_HARM;
            }
        }

        int span() {
            int plain = Math.max(0, 100 - cycles / 10);
            switch (kind) {
                case WET: return plain / 2;
                case SOAKED: return Math.max(0, plain / 2 - 5);
                default: return plain;
            }
        }

        int fresh() {
            switch (kind) {
                case DROPPED: return 90;
                case CRACKED: return 90 - 10;
                case WET: return PLAIN_FRESH - 20;
                case SOAKED: return (PLAIN_FRESH - 20) / 2;
                case LOCKED: return 0;
                default: return PLAIN_FRESH;
            }
        }
    }

    /** All that AN IMAGE keeps. */
    private static final class Shop {
        final Model[] models = new Model[MOST_MODELS];
        int modelCount = 0;
        final Stock parts = new Stock();
        final Phone[] phones = new Phone[MOST_PHONES];
        int phoneCount = 0;
        final int[] chosen = new int[MOST_CHOSEN];
        int chosenCount = 0;
        final Laws laws = new Laws();
        final Causes causes = new Causes();
        int day = 0;
        int till = 0;
        int z = 1;

        Shop() {
            for (int i = 0; i < MOST_MODELS; i++) {
                models[i] = new Model();
            }
            for (int i = 0; i < MOST_PHONES; i++) {
                phones[i] = new Phone();
            }
        }

        void become(Shop other) {
            for (int i = 0; i < MOST_MODELS; i++) {
                models[i].become(other.models[i]);
            }
            modelCount = other.modelCount;
            parts.become(other.parts);
            for (int i = 0; i < MOST_PHONES; i++) {
                phones[i].become(other.phones[i]);
            }
            phoneCount = other.phoneCount;
            System.arraycopy(other.chosen, 0, chosen, 0, MOST_CHOSEN);
            chosenCount = other.chosenCount;
            laws.become(other.laws);
            causes.become(other.causes);
            day = other.day;
            till = other.till;
            z = other.z;
        }

        int addModel(int price, int fall, int paired) {
            Model one = models[modelCount];
            one.price = price;
            one.fall = fall;
            one.paired = paired;
            modelCount++;
            return modelCount - 1;
        }

        int addPhone(int kind, int model, int cycles, int good) {
            phones[phoneCount].comeIn(kind, model, cycles, good);
            phoneCount++;
            return phoneCount - 1;
        }

        boolean isChosen(int phone) {
            for (int i = 0; i < chosenCount; i++) {
                if (chosen[i] == phone) {
                    return true;
                }
            }
            return false;
        }

        int worth(Phone one) {
            return worthWith(one, one.foreign);
        }

        int worthWith(Phone one, int foreign) {
            Model its = models[one.model];
            int mended = its.askedOn(day) * one.fresh() / 100;
            int whole = mended * (50 + one.span() / 2) / 100;
            return Math.max(0, whole - whole / 10 * Integer.bitCount(its.paired & foreign));
        }

        int scrapOf(Phone one) {
            return Math.max(0, Math.min(99, laws.gives(SCRAP, one, day, 3)));
        }

        boolean isForeseen(Phone one) {
            return one.bench != NONE && laws.gives(BACK, one, day, one.span() < 20 ? 1 : 0) != 0;
        }

        int mendAt(Phone one, int bench) {
            int lacks = one.lacks();
            if (one.state != IN || one.kind == LOCKED || !parts.takeEach(one.model, lacks)) {
                return NO;
            }
            till -= one.harm();
            one.good = ALL_BITS;
            one.foreign |= lacks;
            one.state = MENDED;
            one.bench = bench;
            return Integer.bitCount(lacks);
        }

        int stripDown(Phone one) {
            if (one.state != IN) {
                return NO;
            }
            till += scrapOf(one);
            int came = parts.addEach(one.model, one.good);
            one.good = 0;
            one.state = STRIPPED;
            return came;
        }

        int sellToday(Phone one) {
            if (one.state != MENDED || !one.wiped || one.listed || laws.gives(SALE, one, day, 1) == 0) {
                return NO;
            }
            int price = worth(one);
            till += price;
            one.state = SOLD;
            return price;
        }

        int passDay() {
            day++;
            int came = 0;
            for (int i = 0; i < phoneCount; i++) {
                Phone one = phones[i];
                if (one.state == SOLD && !one.returned
                    && drawn() % 100 < (isForeseen(one) ? 60 : 30) - one.span()) {
                    one.returned = true;
                    came++;
                }
            }
            return came;
        }

        private int drawn() {
            z = z * 1103515245 + 12345;
            return z >>> 8;
        }

        int inState(int state) {
            int many = 0;
            for (int i = 0; i < phoneCount; i++) {
                if (phones[i].state == state) {
                    many++;
                }
            }
            return many;
        }

        /** Of a bench, or (NONE) of all. */
        int returnedOf(int bench) {
            int many = 0;
            for (int i = 0; i < phoneCount; i++) {
                if (phones[i].returned && (bench == NONE || phones[i].bench == bench)) {
                    many++;
                }
            }
            return many;
        }

        int rateOf(int bench) {
            int sold = 0;
            for (int i = 0; i < phoneCount; i++) {
                if (phones[i].state == SOLD && phones[i].bench == bench) {
                    sold++;
                }
            }
            return sold == 0 ? NONE : 100 * returnedOf(bench) / sold;
        }

        int worthOnHand() {
            int sum = 0;
            for (int i = 0; i < phoneCount; i++) {
                if (phones[i].isInOrMended()) {
                    sum += worth(phones[i]);
                }
            }
            return sum;
        }
    }

    /** Goes through all PLANS, or all orders, in the order in which the first of several counts. */
    private static final class Planner {
        private static final int MOST_ORDERS = 720;

        int had = 0;
        int late = 0;
        final int[] best = new int[MOST_CHOSEN];
        private final int[] tried = new int[MOST_CHOSEN];
        private final int[] ifMended = new int[MOST_CHOSEN];
        private final int[] ifStripped = new int[MOST_CHOSEN];
        private final Stock parts = new Stock();

        void findPlan(Shop shop) {
            int ways = 1;
            for (int i = 0; i < shop.chosenCount; i++) {
                Phone one = shop.phones[shop.chosen[i]];
                ifMended[i] = shop.worthWith(one, one.foreign | one.lacks()) - one.harm();
                ifStripped[i] = shop.scrapOf(one);
                best[i] = LEFT_ALONE;
                ways *= WAYS;
            }
            had = 0;
            // way 0 leaves all alone: it can always be, with nothing had
            for (int way = 1; way < ways; way++) {
                spellOut(way, shop.chosenCount);
                int gain = gainOf(shop.chosenCount);
                if (gain > had && isFit(shop) && hasParts(shop)) {
                    had = gain;
                    System.arraycopy(tried, 0, best, 0, MOST_CHOSEN);
                }
            }
        }

        /** The first told one is the highest digit: so PLANS come in their order. */
        private void spellOut(int way, int many) {
            int left = way;
            for (int i = many - 1; i >= 0; i--) {
                tried[i] = left % WAYS;
                left /= WAYS;
            }
        }

        private int gainOf(int many) {
            int sum = 0;
            for (int i = 0; i < many; i++) {
                if (tried[i] == TO_MEND) {
                    sum += ifMended[i];
                } else if (tried[i] == TO_STRIP) {
                    sum += ifStripped[i];
                }
            }
            return sum;
        }

        private boolean isFit(Shop shop) {
            for (int i = 0; i < shop.chosenCount; i++) {
                Phone one = shop.phones[shop.chosen[i]];
                boolean neverMended = tried[i] == TO_MEND && one.kind == LOCKED;
                if (neverMended || (tried[i] != LEFT_ALONE && one.state != IN)) {
                    return false;
                }
            }
            return true;
        }

        private boolean hasParts(Shop shop) {
            parts.become(shop.parts);
            for (int i = 0; i < shop.chosenCount; i++) {
                Phone one = shop.phones[shop.chosen[i]];
                if (tried[i] == TO_STRIP) {
                    parts.addEach(one.model, one.good);
                }
            }
            // whether all find their parts doesn't hang on which of them takes first
            for (int i = 0; i < shop.chosenCount; i++) {
                Phone one = shop.phones[shop.chosen[i]];
                if (tried[i] == TO_MEND && !parts.takeEach(one.model, one.lacks())) {
                    return false;
                }
            }
            return true;
        }

        void findOrder(Shop shop) {
            for (int i = 0; i < MOST_CHOSEN; i++) {
                tried[i] = i;
                best[i] = i;
            }
            late = latenessOf(shop);
            boolean more = nextOrder(shop.chosenCount);
            for (int turn = 1; turn < MOST_ORDERS && more; turn++) {
                int its = latenessOf(shop);
                if (its < late) {
                    late = its;
                    System.arraycopy(tried, 0, best, 0, MOST_CHOSEN);
                }
                more = nextOrder(shop.chosenCount);
            }
        }

        private int latenessOf(Shop shop) {
            int minute = 0;
            int sum = 0;
            for (int i = 0; i < shop.chosenCount; i++) {
                Phone one = shop.phones[shop.chosen[tried[i]]];
                minute += one.harm();
                sum += Math.max(0, minute - one.promised);
            }
            return sum;
        }

        /** Makes what is tried the order that comes next; false: it was the last one. */
        private boolean nextOrder(int many) {
            int at = many - 2;
            while (at >= 0 && tried[at] > tried[at + 1]) {
                at--;
            }
            if (at < 0) {
                return false;
            }
            int with = many - 1;
            while (with > at + 1 && tried[with] < tried[at]) {
                with--;
            }
            swap(at, with);
            for (int low = at + 1, high = many - 1; low < high; low++, high--) {
                swap(low, high);
            }
            return true;
        }

        private void swap(int a, int b) {
            int kept = tried[a];
            tried[a] = tried[b];
            tried[b] = kept;
        }
    }

    /** A TEXT that was read; it never changes, so that an image may hold the same one. */
    private static final class Text {
        final int key;
        final int leaves;
        /** Behind one another, the parts ahead of their sign: a NUMBER as it is, a NAME or a sign below 0. */
        final int[] steps;

        Text(int key, int leaves, int[] steps) {
            this.key = key;
            this.leaves = leaves;
            this.steps = steps;
        }
    }

    private static final class Laws {
        final Text[] texts = new Text[MOST_TEXTS];
        int textCount = 0;
        final int[] counting = {NONE, NONE, NONE};
        private final int[] values = new int[MOST_BYTES];

        void become(Laws other) {
            for (int i = 0; i < MOST_TEXTS; i++) {
                texts[i] = other.texts[i];
            }
            textCount = other.textCount;
            System.arraycopy(other.counting, 0, counting, 0, KEYS);
        }

        int addText(Text one) {
            texts[textCount] = one;
            counting[one.key] = textCount;
            textCount++;
            return textCount - 1;
        }

        int gives(int key, Phone one, int day, int otherwise) {
            int number = counting[key];
            if (number < 0 || number >= MOST_TEXTS || texts[number] == null) {
                return otherwise;
            }
            return worksOut(texts[number].steps, one, day);
        }

        private int worksOut(int[] steps, Phone one, int day) {
            int top = -1;
            for (int i = 0; i < steps.length; i++) {
                int step = steps[i];
                if (step == -'!' && top >= 0) {
                    values[top] = values[top] == 0 ? 1 : 0;
                } else if (isBinary(-step) && top >= 1) {
                    top--;
                    values[top] = join(-step, values[top], values[top + 1]);
                } else if (top < MOST_BYTES - 1) {
                    top++;
                    values[top] = step >= 0 ? step : named(-step, one, day);
                }
            }
            return top < 0 ? 0 : values[top];
        }

        private static boolean isBinary(int sign) {
            return TextReader.tightness(sign) > 0;
        }

        private static int named(int name, Phone one, int day) {
            switch (name) {
                case 'k': return one.kind;
                case 'f': return Integer.bitCount(one.foreign);
                case 's': return one.span();
                case 'd': return day;
                case 'g': return Integer.bitCount(one.good);
                case 'b': return one.bench;
                default: return 0;
            }
        }

        private static int join(int sign, int a, int b) {
            switch (sign) {
                case '|': return a != 0 || b != 0 ? 1 : 0;
                case '&': return a != 0 && b != 0 ? 1 : 0;
                case '<': return a < b ? 1 : 0;
                case '=': return a == b ? 1 : 0;
                case '>': return a > b ? 1 : 0;
                case '+': return a + b;
                case '-': return a - b;
                case '*': return a * b;
                default: return b == 0 ? 0 : a / b;
            }
        }
    }

    /** THE TAPE, and the reading of it: signs that wait for their right side stand on a pile. */
    private static final class TextReader {
        private static final int MOST_OPEN = 8, MOST_DIGITS = 4;
        private static final int END = 0, LETTERS = 1, DIGITS = 2, SIGN = 3;
        private static final int COMPARES = 3;

        private final int[] bytes = new int[MOST_BYTES];
        int length = 0;
        private int start = 0;
        private int end = 0;
        private int shape = END;
        private boolean touchesWord = false;
        private int key = SALE;
        private boolean pieceDue = true;
        private final int[] pile = new int[MOST_BYTES];
        private int piled = 0;
        private int openBrackets = 0;
        private int openNots = 0;
        private final int[] steps = new int[MOST_BYTES];
        private int stepCount = 0;
        private int leaves = 0;

        void takeBytes(int four) {
            for (int shift = 24; shift >= 0 && length < MOST_BYTES; shift -= 8) {
                bytes[length] = four >>> shift & 255;
                length++;
            }
        }

        Text textRead() {
            int[] own = new int[stepCount];
            System.arraycopy(steps, 0, own, 0, stepCount);
            return new Text(key, leaves, own);
        }

        /** The place of the FAULT, or -1. */
        int readTape() {
            startAnew();
            goOn();
            key = keyHere();
            if (key < 0) {
                return start;
            }
            for (int words = 0; words < MOST_BYTES; words++) {
                goOn();
                if (shape == END) {
                    break;
                }
                if (!(pieceDue ? takesPiece() : takesSign())) {
                    return start;
                }
            }
            if (pieceDue || openBrackets > 0) {
                return start;
            }
            unpile(1);
            return -1;
        }

        private void startAnew() {
            start = 0;
            end = 0;
            shape = END;
            pieceDue = true;
            piled = 0;
            openBrackets = 0;
            openNots = 0;
            stepCount = 0;
            leaves = 0;
        }

        private static int shapeOf(int one) {
            if (one >= 'a' && one <= 'z') {
                return LETTERS;
            }
            return one >= '0' && one <= '9' ? DIGITS : SIGN;
        }

        /** To the next word or sign, from its start to ahead of its end. */
        private void goOn() {
            boolean wasWord = shape == LETTERS || shape == DIGITS;
            start = end;
            while (start < length && bytes[start] == ' ') {
                start++;
            }
            touchesWord = wasWord && start == end;
            end = start;
            if (start >= length) {
                shape = END;
                return;
            }
            shape = shapeOf(bytes[start]);
            end++;
            while (shape != SIGN && end < length && shapeOf(bytes[end]) == shape) {
                end++;
            }
        }

        private int keyHere() {
            if (isWord("sale")) {
                return SALE;
            }
            if (isWord("scrap")) {
                return SCRAP;
            }
            return isWord("back") ? BACK : -1;
        }

        private boolean isWord(String word) {
            if (end - start != word.length()) {
                return false;
            }
            for (int i = 0; i < word.length(); i++) {
                if (bytes[start + i] != word.charAt(i)) {
                    return false;
                }
            }
            return true;
        }

        private boolean takesPiece() {
            if (touchesWord && shape != SIGN) {
                return false;
            }
            switch (shape) {
                case DIGITS: return takesNumber();
                case LETTERS: return takesName();
                default: return bytes[start] == '(' ? takesBracket() : takesNot();
            }
        }

        private boolean takesNumber() {
            if (end - start > MOST_DIGITS) {
                return false;
            }
            int v = 0;
            for (int i = start; i < end; i++) {
                v = 10 * v + bytes[i] - '0';
            }
            takeLeaf(v);
            return true;
        }

        private boolean takesName() {
            if (end - start != 1 || !isNameHere(bytes[start])) {
                return false;
            }
            takeLeaf(-bytes[start]);
            return true;
        }

        private boolean isNameHere(int letter) {
            switch (key) {
                case SALE: return "kfsd".indexOf((char) letter) >= 0;
                case SCRAP: return "kgd".indexOf((char) letter) >= 0;
                default: return "bsf".indexOf((char) letter) >= 0;
            }
        }

        private void takeLeaf(int step) {
            addStep(step);
            leaves++;
            endPiece();
        }

        private boolean takesBracket() {
            if (openBrackets >= MOST_OPEN) {
                return false;
            }
            openBrackets++;
            push('(');
            return true;
        }

        private boolean takesNot() {
            if (bytes[start] != '!' || openNots >= MOST_OPEN) {
                return false;
            }
            openNots++;
            push('!');
            return true;
        }

        private void endPiece() {
            pieceDue = false;
            for (int i = piled; i > 0 && pile[i - 1] == '!'; i--) {
                addStep(-'!');
                openNots--;
                piled--;
            }
        }

        private boolean takesSign() {
            int sign = bytes[start];
            if (sign == ')') {
                return closesBracket();
            }
            int its = tightness(sign);
            if (its == 0) {
                return false;
            }
            // a TEST compares once: another such sign that waits may not be joined on the left
            unpile(its == COMPARES ? its + 1 : its);
            if (its == COMPARES && piled > 0 && tightness(pile[piled - 1]) == COMPARES) {
                return false;
            }
            push(sign);
            pieceDue = true;
            return true;
        }

        private boolean closesBracket() {
            if (openBrackets == 0) {
                return false;
            }
            unpile(1);
            openBrackets--;
            piled = Math.max(0, piled - 1);
            endPiece();
            return true;
        }

        /** Signs on top of the pile that bind at least so tightly become steps (a bracket ends them). */
        private void unpile(int least) {
            for (int i = piled; i > 0 && tightness(pile[i - 1]) >= least; i--) {
                addStep(-pile[i - 1]);
                piled--;
            }
        }

        private void push(int sign) {
            if (piled < MOST_BYTES) {
                pile[piled] = sign;
                piled++;
            }
        }

        private void addStep(int step) {
            if (stepCount < MOST_BYTES) {
                steps[stepCount] = step;
                stepCount++;
            }
        }

        /** How tightly a sign with two sides binds; 0: it is none. */
        static int tightness(int sign) {
            switch (sign) {
                case '|': return 1;
                case '&': return 2;
                case '<': case '=': case '>': return COMPARES;
                case '+': case '-': return 4;
                case '*': case '/': return 5;
                default: return 0;
            }
        }
    }

    private static final class Causes {
        private static final int NEVER = 99;

        final int[] weights = {1, 1, 1, 1, 1, 1, 1, 1};
        final int[] checks = new int[MOST_CHECKS];
        int checkCount = 0;
        int open = ALL_BITS;

        void become(Causes other) {
            System.arraycopy(other.weights, 0, weights, 0, CAUSES);
            System.arraycopy(other.checks, 0, checks, 0, MOST_CHECKS);
            checkCount = other.checkCount;
            open = other.open;
        }

        private int weightOf(int causes) {
            int sum = 0;
            for (int cause = 0; cause < CAUSES; cause++) {
                if ((causes >> cause & 1) == 1) {
                    sum += weights[cause];
                }
            }
            return sum;
        }

        /** NEXT, or NONE without CHECKS. */
        int mostTelling() {
            int best = NONE;
            int least = 0;
            for (int i = 0; i < checkCount; i++) {
                int heavier = Math.max(weightOf(open & checks[i]), weightOf(open & ~checks[i]));
                if (best == NONE || heavier < least) {
                    best = i;
                    least = heavier;
                }
            }
            return best;
        }

        /** A set of CAUSES comes behind all its parts, so that these are known when it is looked at. */
        int fewestChecks(int[] fewest) {
            for (int set = 0; set <= open && set < fewest.length; set++) {
                if ((set & ~open) == 0) {
                    fewest[set] = fewestOf(set, fewest);
                }
            }
            if (open < 0 || open >= fewest.length || fewest[open] >= NEVER) {
                return NONE;
            }
            return fewest[open];
        }

        private int fewestOf(int set, int[] fewest) {
            if (Integer.bitCount(set) < 2) {
                return 0;
            }
            int best = NEVER;
            for (int i = 0; i < checkCount; i++) {
                int yes = set & checks[i];
                int not = set & ~checks[i];
                if (yes != 0 && not != 0) {
                    best = Math.min(best, 1 + Math.max(fewest[yes], fewest[not]));
                }
            }
            return best;
        }
    }

    /** A row of shorts or floats: whole numbers both, kept as ints, NO NUMBER as NONE (which neither can be). */
    private static final class Sheet {
        int sort = MISSING;
        int size = 0;
        final int[] places = new int[MOST_PLACES];

        void layOut(int newSort, int newSize) {
            sort = newSort;
            size = newSize;
            for (int i = 0; i < MOST_PLACES; i++) {
                places[i] = 0;
            }
        }

        boolean hasRange(int place, int many) {
            return many >= 0 && place >= 0 && place <= size && many <= size - place;
        }

        void become(Sheet other) {
            sort = other.sort;
            size = other.size;
            System.arraycopy(other.places, 0, places, 0, MOST_PLACES);
        }
    }

    private static final class Slot {
        int holds = EMPTY;
        int number = 0;
        final Phone phone = new Phone();
        final Sheet row = new Sheet();
    }
}
