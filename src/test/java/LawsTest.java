/** Promises 21 to 25: feed, trim, text, textTold, why, and what TEXTS give. */
public final class LawsTest {
    public static void main(String[] args) {
        tape();
        faults();
        nesting();
        numbers();
        values();
        sales();
        scraps();
        returns();
        manyLongTexts();
        Due.end("LawsTest");
    }

    private static void tape() {
        PhoneBench x = new PhoneBench();
        for (int i = 1; i <= 8; i++) {
            Due.is("feed", x.feed(-1, 0, i), 12 * i);
        }
        Due.is("feed beyond 96", x.feed(0, 0, 0), Due.FULL);
        Due.is("trim(97)", x.trim(97), Due.BAD);
        Due.is("trim(-1)", x.trim(-1), Due.BAD);
        Due.is("trim(96)", x.trim(96), 96);
        Due.is("trim(85)", x.trim(85), 85);
        Due.is("feed beyond 96", x.feed(0, 0, 0), Due.FULL);
        Due.is("count(13)", x.count(13), 85);
        Due.is("trim(86)", x.trim(86), Due.BAD);
        Due.is("trim(84)", x.trim(84), 84);
        Due.is("feed", x.feed(0, 0, 0), 96);
        Due.is("byte 255 is no key", x.text(), -100);
        Due.is("reading uses it up", x.count(13), 0);
        Due.is("trim(0)", x.trim(0), 0);
        Due.is("feed(sale .. k)", x.feed(0x73616C65, 0x20202020, 0x2020206B), 12);
        Due.is("highest byte first", x.text(), 0);
    }

    private static void fault(String s, int place) {
        PhoneBench x = new PhoneBench();
        Due.is("text(" + s + ")", Due.text(x, s), -100 - place);
        Due.is("uses up the tape", x.count(13), 0);
        Due.is("no text", x.count(6), 0);
    }

    private static void fine(String s) {
        PhoneBench x = new PhoneBench();
        Due.is("text(" + s + ")", Due.text(x, s), 0);
        Due.is("uses up the tape", x.count(13), 0);
    }

    private static void faults() {
        fault("", 0);
        fault("   ", 3);
        fault("sal k", 0);
        fault("  sold k", 2);
        fault("salek", 0);
        fault("SALE k", 0);
        fault("1", 0);
        fault("(k)", 0);
        fault("sale", 4);
        fault("sale  ", 6);
        fault("sale1", 4);
        fault("sale 1k", 6);
        fault("sale k1", 6);
        fault("sale 1 1", 7);
        fault("sale kk", 5);
        fault("sale kz", 5);
        fault("sale ka", 5);
        fault("sale 12309", 5);
        fault("sale k`", 6);
        fault("sale k{", 6);
        fault("sale k:", 6);
        fault("sale 1/", 7);
        fault("sale k k", 7);
        fault("sale g", 5);
        fault("sale b", 5);
        fault("scrap f", 6);
        fault("scrap s", 6);
        fault("scrap b", 6);
        fault("back k", 5);
        fault("back g", 5);
        fault("back d", 5);
        fault("sale sale", 5);
        fault("sale k +", 8);
        fault("sale k + ", 9);
        fault("sale -k", 5);
        fault("sale k!", 6);
        fault("sale k(", 6);
        fault("sale (k", 7);
        fault("sale k)", 6);
        fault("sale ()", 6);
        fault("sale (k))", 8);
        fault("sale k<f<d", 8);
        fault("sale k=f>d", 8);
        fault("sale k<f+1=d", 10);
        fault("sale k==f", 7);
        fault("sale k&&f", 7);
        fault("sale k\tf", 6);
        fault("sale k\n", 6);
        fault("sale K", 5);
        fault("sale k" + (char) 0, 6);
        fault("sale k" + (char) 233, 6);
        fault("sale k,f", 6);
        fault("sale 12345", 5);
        fault("sale k 12345", 7);
        fault("sale 00001", 5);
        fault("sale !", 6);
        fine("sale k");
        fine("  sale   k  ");
        fine("sale(k)");
        fine("sale!k");
        fine("sale 1234");
        fine("sale k<f&k>f|k=f");
        fine("sale (k<f)<d");
        fine("sale k<(f<d)");
        fine("sale !(k<f)<d");
        fine("scrap k+g*d");
        fine("back b-s/f");
    }

    private static String many(String s, int n) {
        return s.repeat(n);
    }

    private static void nesting() {
        fine("sale " + many("(", 8) + "k" + many(")", 8));
        fault("sale " + many("(", 9) + "k" + many(")", 9), 13);
        fine("sale " + many("!", 8) + "k");
        fault("sale " + many("!", 9) + "k", 13);
        fine("sale " + many("!(", 8) + "k" + many(")", 8));
        fault("sale " + many("!(", 8) + "!k" + many(")", 8), 21);
        fault("sale !!!!(!!!!(k+!f))", 17);
        fine("sale !!!!(!!!!(k)+!f)");
        fine("sale !!!!!!!!k+!!!!!!!!k");
        fine("sale " + many("(", 8) + "k" + many(")", 8) + "+" + many("(", 8) + "!k" + many(")", 8));
        fault("sale ((k)+" + many("(", 8) + "k", 17);
        fault("sale " + many("!", 8) + "(k+" + many("(", 8), 23);
        StringBuilder full = new StringBuilder("sale k");
        while (full.length() < 96) {
            full.append("+k");
        }
        fine(full.toString());
    }

    private static void numbers() {
        PhoneBench x = new PhoneBench();
        String[] text = {"sale 1", "scrap k*(g+12)-!d", "back b|s&f<20", "sale k"};
        int[] key = {0, 1, 2, 0};
        int[] leaves = {1, 4, 4, 1};
        for (int i = 0; i < 4; i++) {
            Due.is("text", Due.text(x, text[i]), i);
            Due.is("why", x.why(key[i]), i);
            Due.is("textTold(" + i + ", 0)", x.textTold(i, 0), key[i]);
            Due.is("textTold(" + i + ", 1)", x.textTold(i, 1), leaves[i]);
        }
        Due.is("told last", x.why(0), 3);
        Due.is("why(1)", x.why(1), 1);
        Due.is("why(2)", x.why(2), 2);
        Due.is("why(3)", x.why(3), Due.BAD);
        Due.is("why(-1)", x.why(-1), Due.BAD);
        Due.is("textTold(4, 0)", x.textTold(4, 0), Due.BAD);
        Due.is("textTold(-1, 0)", x.textTold(-1, 0), Due.BAD);
        Due.is("textTold(0, 2)", x.textTold(0, 2), Due.BAD);
        Due.is("textTold(0, -1)", x.textTold(0, -1), Due.BAD);
        Due.is("a fault counts for nothing", Due.text(x, "scrap"), -105);
        Due.is("why(1)", x.why(1), 1);
        for (int i = 4; i < 14; i++) {
            Due.is("text", Due.text(x, "back 1"), i);
        }
        Due.is("FAULT stands ahead of FULL", Due.text(x, "back"), -104);
        Due.is("FULL", Due.text(x, "sale 1"), Due.FULL);
        Due.is("FULL uses it up, too", x.count(13), 0);
        Due.is("why(0)", x.why(0), 3);
        Due.is("count(6)", x.count(6), 14);
    }

    /** What an E gives, read off SCRAP of one locked PHONE (KIND 5, 3 GOOD SORTS, DAY 7). */
    private static void gives(String e, int v) {
        PhoneBench x = new PhoneBench();
        x.model(1000, 0);
        x.phone(5, 0, 7);
        x.run(7);
        Due.is("text(scrap " + e + ")", Due.text(x, "scrap " + e), 0);
        x.strip(0);
        Due.is("scrap " + e, x.count(10), v);
    }

    private static void values() {
        gives("k", 5);
        gives("g", 3);
        gives("d", 7);
        gives("0", 0);
        gives("007", 7);
        gives("99", 99);
        gives("100", 99);
        gives("3-4", 0);
        gives("0-1+50", 49);
        gives("20-5-4", 11);
        gives("100/7/2", 7);
        gives("7/2*2", 6);
        gives("2+3*4", 14);
        gives("(2+3)*4", 20);
        gives("5/0", 0);
        gives("5/0+1", 1);
        gives("10-(0-7)/2", 13);
        gives("9999*9999*22<0", 1);
        gives("2<3", 1);
        gives("3<2", 0);
        gives("3=3", 1);
        gives("3>3", 0);
        gives("4>3", 1);
        gives("1+1<1+2", 1);
        gives("5<3&1", 0);
        gives("1|0&0", 1);
        gives("(1|0)&0", 0);
        gives("7&9", 1);
        gives("7|0", 1);
        gives("0|0", 0);
        gives("7&0", 0);
        gives("!7", 0);
        gives("!0", 1);
        gives("!!7", 1);
        gives("!0+5", 6);
        gives("!0*5", 5);
        gives("!(0+5)", 0);
        gives("!!(2<3)+1", 2);
        gives("2*!0", 2);
        gives("(1=1)=1", 1);
        gives("k*g+d", 22);
        gives("2048*1024*1024<0", 1);
        gives("2048*1024*1024/(0-1)<0", 1);
        gives("2048*1024*1024-1>0", 1);
    }

    private static PhoneBench mended(int kind, int cycles, int good) {
        PhoneBench x = new PhoneBench();
        x.model(2000, 0);
        for (int sort = 0; sort < 8; sort++) {
            x.stock(0, sort, 9);
        }
        x.phone(kind, cycles, good);
        x.mend(0, 3);
        x.flag(0, 0, true);
        return x;
    }

    private static void sales() {
        PhoneBench x = mended(4, 300, 31);
        x.run(2);
        Due.text(x, "sale 0");
        Due.is("sale 0", x.sell(0), Due.NO);
        Due.text(x, "sale k=4&f=3&s=70&d=2&9>8");
        Due.is("a law that holds", x.sell(0), 160 * 85 / 100);
        PhoneBench y = mended(4, 300, 31);
        Due.text(y, "sale 0-1");
        Due.is("what is not 0", y.sell(0), 136);
        PhoneBench z = mended(0, 0, 255);
        Due.text(z, "scrap 0");
        Due.is("another KEY is no matter", z.sell(0), 200);
    }

    private static void scraps() {
        PhoneBench x = new PhoneBench();
        x.model(2000, 0);
        x.phone(2, 0, 0b10101011);
        x.phone(2, 0, 0b10101011);
        Due.text(x, "scrap g*10+k+d");
        x.strip(0);
        Due.is("GOOD ones as they were ahead", x.count(10), 52);
        x.run(3);
        x.choose(1);
        x.turns(1, 5);
        Due.is("in a plan, too", x.plan(-1), 58);
    }

    private static void returns() {
        PhoneBench x = mended(0, 810, 252);
        Due.is("SPAN 19 is below 20", x.told(0, 15), 1);
        PhoneBench y = mended(0, 809, 252);
        Due.is("SPAN 20 is not", y.told(0, 15), 0);
        Due.text(y, "back b=3&s=20&f=2");
        Due.is("by the law", y.told(0, 15), 1);
        Due.text(y, "back 0");
        Due.is("by the last law", y.told(0, 15), 0);
        Due.text(y, "back 1");
        y.phone(0, 990, 255);
        Due.is("without a bench never", y.told(1, 15), 0);
        y.flag(0, 1, true);
        y.hold(0);
        Due.is("of any STATE", y.told(0, 15), 1);
    }

    /** The last of many long texts is read as if it were the first. */
    private static void manyLongTexts() {
        PhoneBench x = new PhoneBench();
        x.model(2000, 0);
        x.phone(5, 0, 255);
        String ones = many("+1", 43);
        for (int i = 0; i < 13; i++) {
            Due.is("text", Due.text(x, "scrap " + i + ones), i);
            Due.is("leaves", x.textTold(i, 1), 44);
        }
        Due.is("text", Due.text(x, "scrap 7" + ones), 13);
        x.strip(0);
        Due.is("all of it counts", x.count(10), 50);
    }
}
