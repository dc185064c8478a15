/** Objects on which much is under way, and all that can be asked of one. */
final class Scene {
    /** PHONES of busy(), by STATE or KIND. */
    static final int DROPPED_IN = 0, MENDED = 1, STRIPPED = 2, SOLD = 3, HELD = 4, LOCKED_IN = 5, SOAKED_IN = 6, CAME_BACK = 7;
    static final int BUSY_PHONES = 8, BUSY_MODELS = 2;
    /** SHEETS of busy(): 3 places of shorts, 4 of floats, no places, none. */
    static final int SHORTS = 0, FLOATS = 1, NO_PLACES = 2, MISSING = 3;
    /** SLOTS of busy(). */
    static final int EMPTY = 0, OF_PHONE = 1, OF_FLOATS = 2, OF_NUMBER = 3, OF_SHORTS = 4;
    static final int BUSY_NUMBERS = 4, BUSY_BYTES = 11;

    private static final int[] ALL_FACTS = {0, 1, 2, 3, 4, 5, 6, 7, 8, 9, 10, 11, 12, 13, 14, 15};
    /** Of many PHONES, so that an object is not asked more than 512 times. */
    private static final int[] FEW_FACTS = {0, 2, 3, 5, 12, 13};

    private Scene() {
    }

    static PhoneBench withModel(int price, int paired) {
        PhoneBench x = new PhoneBench();
        x.model(price, paired);
        return x;
    }

    static PhoneBench withPhone(int kind, int cycles, int good) {
        PhoneBench x = withModel(2003, 0);
        x.phone(kind, cycles, good);
        return x;
    }

    static void stockAll(PhoneBench x, int model, int n) {
        for (int sort = 0; sort < 8; sort++) {
            x.stock(model, sort, n);
        }
    }

    static void pass(PhoneBench x, int days) {
        for (int left = days; left > 0; left -= 60) {
            x.run(Math.min(60, left));
        }
    }

    /** One that is GOOD in all is MENDED, WIPED and SOLD: its number. */
    static int sold(PhoneBench x, int kind, int of, int bench) {
        int phone = x.phone(kind, of, 255);
        x.mend(phone, bench);
        x.flag(phone, 0, true);
        Due.holds("sold", x.sell(phone) >= 0);
        return phone;
    }

    private static void models(PhoneBench x) {
        x.model(2003, 0b101);
        x.model(505, 0b11);
        for (int sort = 0; sort < 8; sort++) {
            x.stock(0, sort, 3 + sort);
            x.stock(1, sort, sort < 4 ? 99 - sort : 0);
        }
        x.common(0b10000000);
    }

    private static void phones(PhoneBench x) {
        x.phone(1, 250, 240);
        x.phone(2, 1400, 0b11111100);
        x.phone(3, 990, 15);
        x.phone(0, 100, 254);
        x.phone(4, 300, 200);
        x.phone(5, 5, 255);
        x.phone(3, 1850, 7);
        x.phone(0, 999, 255);
        x.mend(MENDED, 2);
        x.flag(MENDED, 0, true);
        x.strip(STRIPPED);
        x.flag(HELD, 1, true);
        x.hold(HELD);
        for (int phone = SOLD; phone <= CAME_BACK; phone += CAME_BACK - SOLD) {
            x.mend(phone, 1);
            x.flag(phone, 0, true);
            x.sell(phone);
        }
        x.promise(SOAKED_IN, 44);
        x.choose(SOAKED_IN);
        x.choose(DROPPED_IN);
        x.choose(LOCKED_IN);
    }

    private static PhoneBench kept() {
        PhoneBench x = new PhoneBench();
        models(x);
        Due.text(x, "sale s<95");
        Due.text(x, "back f=3|s<9");
        Due.text(x, "scrap g+k");
        phones(x);
        x.check(15);
        x.check(51);
        x.check(85);
        x.weigh(2, 40);
        x.says(0, true);
        // the first draw brings back the one whose SPAN is 1
        x.run(3);
        x.keep();
        return x;
    }

    private static void rows(PhoneBench x) {
        x.sheet(SHORTS, 0, 3);
        x.sheet(FLOATS, 1, 4);
        x.sheet(NO_PLACES, 0, 0);
        int[] floats = {191, Due.NONE, 185, -99999};
        for (int i = 0; i < 4; i++) {
            x.mark(FLOATS, i, floats[i]);
        }
        x.mark(SHORTS, 0, 5);
        x.mark(SHORTS, 1, -7);
        x.mark(SHORTS, 2, 9);
        x.lay(OF_PHONE, 1, HELD);
        x.lay(OF_FLOATS, 2, FLOATS);
        x.lay(OF_NUMBER, 3, -17);
        x.lay(OF_SHORTS, 2, SHORTS);
        // so that the rows in the SLOTS are not those of the SHEETS
        x.mark(SHORTS, 2, 10);
    }

    /** THE DAYS TOLD from now on, of an object that is used up by that. */
    static int[] daysTold(PhoneBench x, int n) {
        int[] row = new int[2 * n];
        for (int day = 0; day < n; day++) {
            x.run(1);
            for (int phone = 0; phone < x.count(1); phone++) {
                row[2 * day] += x.told(phone, 5) < 2 ? x.told(phone, 11) : 0;
            }
            row[2 * day + 1] = x.count(5);
        }
        return row;
    }

    static void tellAll(PhoneBench x, int... numbers) {
        for (int v : numbers) {
            x.tell(v);
        }
    }

    private static final int[] BUSY_ROW = daysTold(kept(), BUSY_NUMBERS / 2);

    /** All is under way: each STATE, TEXTS of each KEY, CHECKS, SHEETS, SLOTS, an IMAGE, numbers, THE TAPE. */
    static PhoneBench busy() {
        PhoneBench x = kept();
        rows(x);
        x.turns(SOAKED_IN, 4);
        x.run(1);
        tellAll(x, BUSY_ROW);
        Due.tape(x, "scrap g*2+d");
        return x;
    }

    /** All is full: MODELS, PHONES, told ones, TEXTS, CHECKS, numbers, THE TAPE, the last DAY. */
    static PhoneBench full() {
        PhoneBench x = new PhoneBench();
        for (int i = 0; i < 6; i++) {
            x.model(1000 + i, 3);
        }
        for (int i = 0; i < 16; i++) {
            x.phone(i % 6, 1000 * (i % 6) + i, 255 - i);
        }
        for (int i = 0; i < 6; i++) {
            x.choose(i);
        }
        x.strip(15);
        for (int i = 0; i < 14; i++) {
            Due.text(x, "scrap k     ");
        }
        for (int i = 1; i <= 8; i++) {
            x.check(i);
        }
        pass(x, 999);
        for (int i = 0; i < 60; i++) {
            x.tell(i);
        }
        x.feed(0x73616C65, 0x206B2020, 0x20202020);
        for (int i = 1; i < 8; i++) {
            x.feed(0x20202020, 0x20202020, 0x20202020);
        }
        return x;
    }

    /** Half of all that an object answers, in one row; it is used up by that. Both of one were more than 512 calls. */
    static String probe(PhoneBench x, int half) {
        StringBuilder row = new StringBuilder();
        counts(x, row);
        if (half == 0) {
            facts(x, row, x.count(1) > 8 ? FEW_FACTS : ALL_FACTS);
            stocks(x, row);
            laws(x, row);
            plans(x, row);
            slots(x, row);
            sheets(x, row);
            return row.toString();
        }
        causes(x, row);
        lawOfTape(x, row);
        numbers(x, row);
        pairs(x, row);
        image(x, row);
        return row.toString();
    }

    private static void image(PhoneBench x, StringBuilder row) {
        int day = x.back();
        row.append("| image ").append(day);
        if (day >= 0) {
            counts(x, row);
            facts(x, row, FEW_FACTS);
            stocks(x, row);
            laws(x, row);
            plans(x, row);
        }
    }

    private static void add(StringBuilder row, int v) {
        row.append(' ').append(v);
    }

    private static void counts(PhoneBench x, StringBuilder row) {
        row.append("| counts");
        for (int what = 0; what < 15; what++) {
            add(row, x.count(what));
        }
    }

    private static void facts(PhoneBench x, StringBuilder row, int[] facts) {
        for (int phone = 0; phone < x.count(1); phone++) {
            row.append("| phone ").append(phone);
            for (int what : facts) {
                add(row, x.told(phone, what));
            }
        }
    }

    private static void stocks(PhoneBench x, StringBuilder row) {
        for (int model = 0; model < x.count(0); model++) {
            row.append("| model ").append(model);
            add(row, x.asked(model, 0));
            add(row, x.asked(model, 1));
            for (int sort = 0; sort < 8; sort++) {
                add(row, x.has(model, sort));
            }
        }
    }

    private static void laws(PhoneBench x, StringBuilder row) {
        row.append("| laws");
        for (int key = 0; key < 3; key++) {
            add(row, x.why(key));
        }
        for (int text = 0; text < x.count(6); text++) {
            add(row, x.textTold(text, 0));
            add(row, x.textTold(text, 1));
        }
    }

    private static void plans(PhoneBench x, StringBuilder row) {
        row.append("| plans");
        for (int what = -1; what < x.count(9); what++) {
            add(row, x.plan(what));
            add(row, x.noon(what));
        }
        row.append("| benches");
        for (int bench = 0; bench < 4; bench++) {
            add(row, x.rate(bench));
        }
        add(row, x.blamed());
    }

    private static void slots(PhoneBench x, StringBuilder row) {
        for (int slot = 0; slot < 5; slot++) {
            row.append("| slot ").append(slot);
            add(row, x.rest(slot, Due.MOST));
            add(row, x.ask(slot, 0));
            for (int place = 0; place < 5; place++) {
                add(row, x.item(slot, place));
            }
        }
    }

    private static void sheets(PhoneBench x, StringBuilder row) {
        for (int sheet = 0; sheet < 4; sheet++) {
            row.append("| sheet ").append(sheet);
            add(row, x.path(sheet, 0));
            add(row, x.copy(sheet, 0, 0, 0, 0));
            if (x.lay(0, 2, sheet) >= 0) {
                for (int place = 0; place < 5; place++) {
                    add(row, x.item(0, place));
                }
            }
        }
    }

    private static void causes(PhoneBench x, StringBuilder row) {
        row.append("| causes");
        add(row, x.next());
        add(row, x.deep());
        for (int check = 0; check < x.count(7); check++) {
            x.anew();
            add(row, x.says(check, true));
        }
        for (int cause = 0; cause < 8; cause++) {
            add(row, x.weigh(cause, 0));
        }
    }

    private static void lawOfTape(PhoneBench x, StringBuilder row) {
        row.append("| tape");
        int text = x.text();
        add(row, text);
        add(row, x.textTold(text, 0));
        add(row, x.textTold(text, 1));
        add(row, x.plan(-1));
    }

    private static void numbers(PhoneBench x, StringBuilder row) {
        row.append("| numbers");
        add(row, x.proves(BUSY_NUMBERS / 2));
    }

    private static void pairs(PhoneBench x, StringBuilder row) {
        row.append("| common").append(x.common(0)).append("| pairs");
        for (int model = 0; model < x.count(0); model++) {
            add(row, x.has(model, 7));
            if (x.count(0) < 6) {
                stockAll(x, model, 9);
            }
        }
        for (int phone = 0; phone < x.count(1); phone++) {
            if (x.mend(phone, 0) >= 0) {
                add(row, x.told(phone, 11));
            }
        }
    }
}
