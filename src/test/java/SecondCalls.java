import java.util.List;
import java.util.Random;

/** Which calls come in a mixed run: mostly ones that can be, some at the edges, some wild; and rows of calls that belong together. */
final class SecondCalls {
    interface Taker {
        void take(String name, int... numbers);
    }

    static final String[][] GROUPS = {
        {"model", "asked", "common", "stock", "has", "stock", "has"},
        {"phone", "told", "told", "told", "as", "turns", "flag", "promise", "mend", "strip", "sell", "hold", "*mend", "*sell"},
        {"choose", "clear", "plan", "noon", "choose", "choose", "*noon", "*crowd"},
        {"feed", "trim", "text", "textTold", "why", "*text", "*text", "*text", "*law", "*tape"},
        {"weigh", "check", "says", "anew", "next", "deep", "next", "check", "weigh"},
        {"run", "rate", "blamed", "seed", "rate", "*back", "*back", "*year"},
        {"sheet", "mark", "path", "fill", "copy", "lay", "ask", "item", "rest", "*row", "*path", "*copy", "*slot"},
        {"tell", "proves", "keep", "back", "count", "count", "*proves", "*wait"}};

    private static final int[] WILD = {Due.LEAST, Due.MOST, -1, -2, 0, 1, 6, 8, 16, 24, 25, 31, 60, 61, 99, 100, 255, 256, 999,
        1000, 9999, 10000, Due.BAD, Due.NONE, 65536, -32769, 32768, 99999, -99999, 100000};

    private final Random random;
    private final SecondBench second;
    private final Taker taker;
    private final int wildness;

    SecondCalls(Random random, SecondBench second, Taker taker) {
        this.random = random;
        this.second = second;
        this.taker = taker;
        this.wildness = 8 + random.nextInt(40);
    }

    private int any(int least, int most) {
        return least + random.nextInt(Math.max(1, most - least + 1));
    }

    /** Mostly within, seldom right outside, more seldom anything. */
    private int number(int least, int most) {
        if (random.nextInt(wildness) > 0) {
            return random.nextInt(5) == 0 ? (random.nextBoolean() ? least : Math.max(least, most)) : any(least, most);
        }
        switch (random.nextInt(4)) {
            case 0: return least - 1;
            case 1: return most + 1;
            case 2: return WILD[random.nextInt(WILD.length)];
            default: return random.nextInt();
        }
    }

    private int aModel() {
        return number(0, second.count(0) - 1);
    }

    private int aPhone() {
        return number(0, second.count(1) - 1);
    }

    private int what(int most) {
        return number(0, most);
    }

    /** Few lack much: else nothing could ever be mended. */
    private int good() {
        int bits = 255;
        for (int i = random.nextInt(5); i > 0; i--) {
            bits &= ~(1 << random.nextInt(8));
        }
        return random.nextInt(8) == 0 ? number(0, 255) : bits;
    }

    /** Cycles crowd where a SPAN of 20 begins, and at their own ends. */
    private int cycles() {
        switch (random.nextInt(4)) {
            case 0: return any(0, 999);
            case 1: return any(500, 999);
            case 2: return any(795, 815);
            default: return random.nextBoolean() ? 0 : 999;
        }
    }

    private int of() {
        return random.nextInt(6) == 0 ? number(0, 1000 * second.count(0) - 1) : 1000 * Math.max(0, aModel()) + cycles();
    }

    /** Whether two alternatives or one is asked for: a bit for a boolean. */
    private int bit() {
        return random.nextInt(2);
    }

    void opening() {
        for (int i = any(1, 3); i > 0; i--) {
            taker.take("model", any(10, 9999), any(0, 255));
        }
        for (int sort = 0; sort < 8; sort++) {
            taker.take("stock", 0, sort, any(0, 20));
        }
        for (int i = random.nextInt(6) == 0 ? 17 : any(2, 12); i > 0; i--) {
            taker.take("phone", any(0, 5), cycles(), good());
        }
    }

    void more(int group) {
        String name = GROUPS[group][random.nextInt(GROUPS[group].length)];
        if (name.startsWith("*")) {
            row(name.substring(1));
        } else if (group <= 3) {
            bench(name);
        } else {
            rows(name);
        }
    }

    private void bench(String name) {
        switch (name) {
            case "model" -> taker.take(name, number(10, 9999), number(0, 255));
            case "asked" -> taker.take(name, aModel(), number(0, 999));
            case "common" -> taker.take(name, number(0, 255));
            case "stock" -> taker.take(name, aModel(), what(7), random.nextBoolean() ? number(0, 3) : number(0, 99));
            case "has" -> taker.take(name, aModel(), what(7));
            case "phone" -> taker.take(name, what(5), of(), good());
            case "told" -> taker.take(name, aPhone(), what(15));
            case "as", "turns" -> taker.take(name, aPhone(), what(5));
            case "flag" -> taker.take(name, aPhone(), what(1), bit());
            case "promise" -> taker.take(name, aPhone(), random.nextBoolean() ? number(0, 40) : number(0, 999));
            case "mend" -> taker.take(name, aPhone(), what(3));
            case "strip", "sell", "hold", "choose" -> taker.take(name, aPhone());
            case "plan", "noon" -> taker.take(name, number(-1, second.count(9) - 1));
            case "feed" -> taker.take(name, random.nextInt(), random.nextInt(), random.nextInt());
            case "trim" -> taker.take(name, number(0, second.count(13)));
            case "textTold" -> taker.take(name, number(0, second.count(6) - 1), what(1));
            case "why" -> taker.take(name, what(2));
            default -> taker.take(name);
        }
    }

    private void rows(String name) {
        switch (name) {
            case "weigh" -> taker.take(name, what(7), random.nextBoolean() ? number(0, 4) : number(0, 99));
            case "check" -> taker.take(name, number(1, 254));
            case "says" -> taker.take(name, number(0, second.count(7) - 1), bit());
            case "run" -> taker.take(name, random.nextInt(4) > 0 ? number(1, 3) : number(1, 60));
            case "rate" -> taker.take(name, what(3));
            case "seed" -> taker.take(name, random.nextBoolean() ? random.nextInt() : number(0, 9));
            case "sheet" -> taker.take(name, what(3), number(-1, 1), random.nextBoolean() ? number(0, 5) : number(0, 24));
            case "mark" -> taker.take(name, what(3), random.nextBoolean() ? what(4) : what(23), value());
            case "path", "fill" -> taker.take(name, what(3), aModel());
            case "copy" -> taker.take(name, what(3), number(0, 6), what(3), number(0, 6), number(-1, 6));
            case "lay" -> layAnything();
            case "ask" -> taker.take(name, what(4), what(5));
            case "item" -> taker.take(name, what(4), random.nextBoolean() ? what(4) : what(23));
            case "rest" -> taker.take(name, what(4), random.nextBoolean() ? number(-3, 3) : random.nextInt());
            case "tell" -> taker.take(name, random.nextInt(2000));
            case "proves" -> taker.take(name, number(1, 30));
            case "count" -> taker.take(name, what(14));
            default -> taker.take(name);
        }
    }

    private int value() {
        switch (random.nextInt(6)) {
            case 0: return Due.NONE;
            case 1: return random.nextInt();
            case 2: return WILD[random.nextInt(WILD.length)];
            default: return number(-3, 60);
        }
    }

    private void layAnything() {
        int thing = what(3);
        int most = thing == 1 ? second.count(1) - 1 : 3;
        taker.take("lay", what(4), thing, thing == 3 ? random.nextInt() : number(0, most));
    }

    private void row(String name) {
        switch (name) {
            case "mend" -> mendOne();
            case "sell" -> sellOne();
            case "noon" -> allOfNoon();
            case "crowd" -> crowdByNoon();
            case "text" -> say(new SecondWords(random).anyText());
            case "law" -> say(new SecondWords(random).goodText());
            case "tape" -> feedFull();
            case "back" -> comeBack();
            case "year" -> goYears();
            case "row" -> markRow();
            case "path" -> tellPath();
            case "copy" -> copyTold();
            case "slot" -> lookInSlot();
            case "proves" -> proveDays();
            default -> waitFull();
        }
    }

    private void mendOne() {
        int phone = aPhone();
        taker.take("told", phone, 8);
        taker.take("mend", phone, what(3));
        taker.take("told", phone, 4);
        taker.take("told", phone, 11);
        taker.take("count", 10);
    }

    private void sellOne() {
        int phone = aPhone();
        taker.take("mend", phone, what(3));
        taker.take("flag", phone, 0, 1);
        taker.take("sell", phone);
        taker.take("told", phone, 15);
        taker.take("count", 10);
    }

    private void allOfNoon() {
        for (int what = -1; what < second.count(9); what++) {
            taker.take("plan", what);
            taker.take("noon", what);
        }
    }

    /** As many as can be told; mostly the later ones are promised earlier, so that late orders are best, too. */
    private void crowdByNoon() {
        taker.take("clear");
        int many = second.count(1);
        for (int i = 0; i < many; i++) {
            if (random.nextInt(4) > 0) {
                taker.take("promise", i, random.nextInt(3) == 0 ? any(0, 80) : Math.max(0, 12 * (many - i) - any(0, 12)));
            }
            taker.take("choose", i);
        }
        for (int what = -1; what < 6; what++) {
            taker.take("noon", what);
        }
        taker.take("plan", -1);
    }

    /** Bytes behind the text are cut off again; what the tape had is sometimes left there. */
    private void say(String text) {
        int had = second.count(13);
        if (random.nextInt(10) > 0) {
            taker.take("trim", 0);
            had = 0;
        }
        for (int i = 0; i < text.length(); i += 12) {
            taker.take("feed", four(text, i), four(text, i + 4), four(text, i + 8));
        }
        taker.take("trim", had + text.length());
        taker.take("text");
        taker.take("textTold", second.count(6), 0);
        taker.take("textTold", second.count(6), 1);
    }

    private void feedFull() {
        for (int i = second.count(13); i <= 96; i += 12) {
            taker.take("feed", random.nextInt(), 0x20202020, 0x73616c65);
        }
        taker.take("trim", any(0, 96));
        taker.take("count", 13);
        taker.take("text");
    }

    private static int four(String text, int from) {
        int number = 0;
        for (int i = from; i < from + 4; i++) {
            number = 256 * number + (i < text.length() ? text.charAt(i) : 'z');
        }
        return number;
    }

    private void comeBack() {
        taker.take("run", any(1, 4));
        taker.take("count", 5);
        taker.take("blamed");
        for (int bench = 0; bench < 4; bench++) {
            taker.take("rate", bench);
        }
        taker.take("count", 14);
    }

    /** Few runs get to the last DAY, and behind it nothing falls any more. */
    private void goYears() {
        if (random.nextInt(12) > 0) {
            taker.take("count", 11);
            return;
        }
        for (int day = second.count(11); day < 999 - 60; day += 60) {
            taker.take("run", 60);
        }
        taker.take("run", 30);
        taker.take("run", any(25, 35));
    }

    private void markRow() {
        int sheet = any(0, 3);
        int many = any(0, 10);
        taker.take("sheet", sheet, any(0, 1), many);
        for (int i = 0; i < many; i++) {
            taker.take("mark", sheet, i, value());
        }
        taker.take("fill", sheet, aModel());
    }

    private void tellPath() {
        int sheet = any(0, 3);
        int many = any(0, 8);
        int model = aModel();
        taker.take("sheet", sheet, any(0, 1), many);
        for (int i = 0; i < many; i++) {
            int asked = second.asked(model, second.count(11) + i);
            taker.take("mark", sheet, i, random.nextInt(12) == 0 ? value() : asked);
        }
        taker.take("path", sheet, model);
    }

    private void copyTold() {
        int to = any(0, 3);
        taker.take("copy", any(0, 3), any(0, 5), to, any(0, 5), any(0, 5));
        taker.take("copy", to, any(0, 3), to, any(0, 3), any(0, 4));
        taker.take("lay", 0, 2, to);
        for (int i = 0; i < 8; i++) {
            taker.take("item", 0, i);
        }
    }

    private void lookInSlot() {
        int slot = any(0, 4);
        int thing = any(1, 3);
        taker.take("lay", slot, thing, thing == 1 ? aPhone() : what(3));
        taker.take("turns", aPhone(), what(5));
        taker.take("mark", what(3), 0, any(0, 9));
        taker.take("ask", slot, what(5));
        taker.take("item", slot, what(2));
        taker.take("rest", slot, number(-2, 5));
    }

    private void proveDays() {
        int days = any(1, 6);
        List<Integer> told = second.daysTold(days);
        for (int number : told) {
            taker.take("tell", random.nextInt(30) == 0 ? number + 1 : number);
        }
        if (random.nextInt(6) == 0) {
            taker.take("tell", 0);
        }
        taker.take("proves", random.nextInt(6) == 0 ? number(1, 30) : days);
    }

    private void waitFull() {
        if (random.nextInt(4) > 0) {
            taker.take("count", 12);
            return;
        }
        for (int i = second.count(12); i < 61; i++) {
            taker.take("tell", i);
        }
        taker.take("proves", 30);
    }
}
