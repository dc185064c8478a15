/** Boundary cases of laws: promises 21 to 25, and what "Terms" 3 says of them. */
public final class LawsEdgeTest {
    private static final int BLANKS = 0x20202020;

    public static void main(String[] args) {
        Edges.run(LawsEdgeTest.class);
    }

    private static void fault(String s, int place) {
        PhoneBench x = new PhoneBench();
        Due.is("text(" + s + ")", Due.text(x, s), -100 - place);
        Due.is("no TEXT of " + s, x.count(6), 0);
        Due.is("no TEXT counts behind " + s, x.why(0), Due.NONE);
    }

    private static void fine(String s) {
        PhoneBench x = new PhoneBench();
        Due.is("text(" + s + ")", Due.text(x, s), 0);
        Due.is("one TEXT of " + s, x.count(6), 1);
    }

    private static String many(String s, int n) {
        return s.repeat(n);
    }

    /** What an E gives, held within 0 .. 99: SCRAP of a LOCKED PHONE with 3 GOOD SORTS on DAY 7. */
    private static void gives(String e, int v) {
        PhoneBench x = Scene.withPhone(5, 0, 7);
        x.run(7);
        Due.is("text(scrap " + e + ")", Due.text(x, "scrap " + e), 0);
        x.strip(0);
        Due.is("scrap " + e, x.count(10), v);
    }

    @Edge(at = "Terms 3", says = "TEXTS, 14 at most, numbered from 0")
    static void fourteenTexts() {
        PhoneBench x = new PhoneBench();
        for (int i = 0; i < 14; i++) {
            Due.is("no such TEXT yet", x.textTold(i, 0), Due.BAD);
            Due.is("text", Due.text(x, "sale 1+1"), i);
            Due.is("its leaves", x.textTold(i, 1), 2);
        }
        Due.is("the 15th", Due.text(x, "scrap 1"), Due.FULL);
        Due.is("count(6)", x.count(6), 14);
        Due.is("no TEXT 14", x.textTold(14, 0), Due.BAD);
        Due.is("the last counts still", x.why(0), 13);
        Due.is("the 15th does not", x.why(1), Due.NONE);
    }

    @Edge(at = "Terms 3", says = "from THE TAPE (96 bytes at most; an act that reads it uses it up, whatever it answers)")
    static void usedUp() {
        PhoneBench x = new PhoneBench();
        Due.is("a FAULT", Due.text(x, many(" ", 96)), -196);
        Due.is("used up", x.count(13), 0);
        Due.is("nothing is left", x.text(), -100);
        Due.is("a TEXT of 96 bytes", Due.text(x, "sale " + many("k+", 45) + "k"), 0);
        Due.is("used up", x.count(13), 0);
        Due.is("its leaves", x.textTold(0, 1), 46);
        Due.is("a FAULT at the last byte", Due.text(x, "sale " + many("k+", 45) + ")"), -195);
        Due.is("a FAULT behind the last byte", Due.text(x, "sale  " + many("k+", 45)), -196);
        for (int i = 1; i < 14; i++) {
            Due.text(x, "sale 1");
        }
        Due.is("FULL", Due.text(x, "sale 1"), Due.FULL);
        Due.is("used up", x.count(13), 0);
        // what was on it ahead of that is not read any more
        Due.is("feed", x.feed(0x6261636B, BLANKS, BLANKS), 12);
        Due.is("a FAULT goes by the new bytes", x.text(), -112);
    }

    @Edge(at = "Terms 3", says = "KEY: sale | scrap | back.")
    static void keys() {
        fine("sale 1");
        fine("scrap 1");
        fine("back 1");
        String[] none = {"sal 1", "sales 1", "scra 1", "scraps 1", "bac 1", "backs 1", "s 1", "k", "z 1", "Sale 1", "1 sale", "(sale 1)",
            "!sale 1", "salesale 1", "salek", "+", "\0sale 1"};
        for (String s : none) {
            fault(s, 0);
            fault("  " + s, 2);
        }
        String[] right = {"sale", "scrap", "back"};
        for (String key : right) {
            for (int i = 0; i < key.length(); i++) {
                fault(key.substring(0, i) + "x" + key.substring(i + 1) + " 1", 0);
            }
        }
    }

    @Edge(at = "Terms 3", says = "PIECE: NUMBER (1 to 4 digits) | NAME | ! PIECE | ( E ).")
    static void digits() {
        gives("0", 0);
        gives("9", 9);
        gives("0099", 99);
        gives("0000", 0);
        gives("9999-9990", 9);
        gives("9999=9998+1", 1);
        fault("sale 00000", 5);
        fault("sale 10000", 5);
        fault("sale 12345", 5);
        fault("sale 1+12345+", 7);
        fine("sale 1234");
        fine("sale 1234+1234");
        fault("sale", 4);
        fault("sale ()", 6);
        fault("sale !", 6);
        fault("sale !)", 6);
        fault("sale (", 6);
    }

    @Edge(at = "Terms 3", says = "of sale k KIND, f how many FOREIGN SORTS, s SPAN, d DAY; of scrap k, g how many GOOD SORTS, d; of back b "
        + "the bench, s SPAN, f.")
    static void names() {
        String[] key = {"sale", "scrap", "back"};
        String[] own = {"kfsd", "kgd", "bsf"};
        for (int i = 0; i < 3; i++) {
            for (char c = 'a'; c <= 'z'; c++) {
                if (own[i].indexOf(c) >= 0) {
                    fine(key[i] + " " + c);
                } else {
                    fault(key[i] + " " + c, key[i].length() + 1);
                }
            }
        }
        gives("k", 5);
        gives("g", 3);
        gives("d", 7);
        nameBounds();
    }

    /** What the NAMES of sale and back are at their least and their most. */
    private static void nameBounds() {
        PhoneBench x = Scene.withPhone(0, 0, 255);
        x.phone(4, 999, 0);
        Scene.stockAll(x, 0, 1);
        x.mend(0, 0);
        x.mend(1, 3);
        x.flag(0, 0, true);
        x.flag(1, 0, true);
        Due.text(x, "sale !(k=0&f=0&s=100&d=0)");
        Due.is("the least of sale", x.sell(0), Due.NO);
        Due.text(x, "back b=0&s=100&f=0");
        Due.is("the least of back", x.told(0, 15), 1);
        Due.is("not the other one", x.told(1, 15), 0);
        Due.text(x, "back b=3&s=1&f=8");
        Due.is("the most of back", x.told(1, 15), 1);
        Scene.pass(x, 999);
        Due.text(x, "sale !(k=4&f=8&s=1&d=999)");
        Due.is("the most of sale", x.sell(1), Due.NO);
        Due.text(x, "scrap g*(g=8)+(g=0)*50");
        x.phone(0, 0, 255);
        x.phone(0, 0, 0);
        int till = x.count(10);
        x.strip(2);
        Due.is("8 are GOOD", x.count(10), till + 8);
        x.strip(3);
        Due.is("none is GOOD", x.count(10), till + 58);
    }

    @Edge(at = "Terms 3", says = "A word is a row of letters a .. z, or of digits, as long as it goes; any other byte is a sign by itself.")
    static void everyByteForAPiece() {
        for (int c = 0; c < 256; c++) {
            String s = "sale " + (char) c;
            boolean piece = c >= '0' && c <= '9' || "kfsd".indexOf(c) >= 0;
            boolean goesOn = c == ' ' || c == '(' || c == '!';
            if (piece) {
                fine(s);
            } else {
                fault(s, goesOn ? 6 : 5);
            }
        }
    }

    @Edge(at = "Terms 3", says = "E, the loosest first: OR: AND { | AND }; AND: TEST { & TEST }; TEST: SUM [ (< | = | >) SUM ]")
    static void everyByteBehindAPiece() {
        for (int c = 0; c < 256; c++) {
            boolean letter = c >= 'a' && c <= 'z';
            boolean sign = "|&<=>+-*/".indexOf(c) >= 0;
            if (c == ' ') {
                fine("sale k ");
            } else {
                fault("sale k" + (char) c, letter ? 5 : sign ? 7 : 6);
            }
            if (sign) {
                fine("sale k" + (char) c + "k");
                fine("sale k " + (char) c + " k");
                fault("sale " + (char) c + "k", 5);
                fault("sale k" + (char) c + (char) c + "k", 7);
            }
        }
        fault("sale k<f<d", 8);
        fault("sale k=f=d", 8);
        fault("sale k>f*1+1=d", 12);
        fine("sale k<f&k<f|k<f");
        fine("sale (k<f)<(k<f)");
    }

    @Edge(at = "Terms 3", says = "Between words and signs, and at the ends, there may be blanks (byte 32); a word right behind another one needs one.")
    static void blanks() {
        fine(" sale k");
        fine("     sale     (   k   +   1   )   ");
        fine("sale k ");
        fine("sale(k)");
        fine("sale!k");
        fine("sale 1+k");
        fine("sale k+1");
        fine(many(" ", 90) + "sale k");
        fine("sale" + many(" ", 91) + "k");
        fine("sale k" + many(" ", 90));
        for (int c = 0; c < 32; c++) {
            fault((char) c + "sale k", 0);
            fault("sale" + (char) c + "k", 4);
            fault("sale k" + (char) c, 6);
        }
        fault("sale k" + (char) 160, 6);
        fault("sale1", 4);
        fault("scrap7", 5);
        fault("sale 1k", 6);
        fault("sale k1", 6);
        fault("sale 1 k", 7);
        fault("sale k 1", 7);
        fault("sale 12 34", 8);
        fault("sale k f", 7);
        fault("sale kf", 5);
    }

    @Edge(at = "Terms 3", says = "FAULT: the first byte of the first word or sign with which no TEXT goes on")
    static void firstFault() {
        fault("sale ) )", 5);
        fault("sale kk 12345", 5);
        fault("sale 12345 kk", 5);
        fault("sale (k))", 8);
        fault("sale ((k)", 9);
        fault("sale k)", 6);
        fault("sale k(", 6);
        fault("sale k!k", 6);
        fault("sale (k)(k)", 8);
        fault("sale (k)k", 8);
        fault("sale (k)1", 8);
        fault("sale (k)!k", 8);
        fault("sale sale", 5);
        fault("sale -1", 5);
        fault("sale k+-1", 7);
        fault("sale   zzz", 7);
    }

    @Edge(at = "Terms 3", says = "(a word that needs a blank ahead of it, a NUMBER of more than 4 digits, the ninth ( that would be open "
        + "within others, the ninth ! likewise (through ( ), too), each by itself)")
    static void ninthOnes() {
        fine("sale " + many("(", 8) + "k" + many(")", 8));
        fault("sale " + many("(", 9) + "k" + many(")", 9), 13);
        fine("sale " + many("!", 8) + "k");
        fault("sale " + many("!", 9) + "k", 13);
        // through brackets, too
        fine("sale " + many("!(", 8) + "k" + many(")", 8));
        fault("sale " + many("!(", 8) + "!k" + many(")", 8), 21);
        fault("sale " + many("!", 8) + "(!k)", 14);
        fault("sale " + many("!", 4) + "(k+" + many("!", 5) + "k)", 16);
        fine("sale " + many("!", 4) + "(k+" + many("!", 4) + "k)");
        // each by itself
        fine("sale " + many("!", 8) + many("(", 8) + "k" + many(")", 8));
        fine("sale " + many("(", 8) + many("!", 8) + "k" + many(")", 8));
        fault("sale " + many("!", 8) + many("(", 9), 21);
        fault("sale " + many("(", 8) + many("!", 9), 21);
        // open within others, not beside them
        fine("sale " + many("(k)+", 9) + "k");
        fine("sale " + many("!k+", 9) + "k");
        fine("sale " + many("!(k)+", 9) + "k");
        fine("sale " + many("(", 7) + "(k)+(k)" + many(")", 7));
        fault("sale " + many("(", 7) + "(k)+((k", 5 + 7 + 5);
        fine("sale " + many("!", 7) + "(!k+!k)");
        fault("sale " + many("!", 7) + "(!k+!!k)", 5 + 7 + 5);
        fine("sale " + many("!", 8) + "k+" + many("!", 8) + "k");
        fine("sale " + many("!", 8) + "(k)+" + many("!", 8) + "(k)");
        fault("sale " + many("!", 8) + "k+" + many("!", 9) + "k", 5 + 10 + 8);
    }

    @Edge(at = "Terms 3", says = "the end (the place behind the last byte, blanks, too), if it comes too soon")
    static void tooSoon() {
        fault("", 0);
        fault(" ", 1);
        fault(many(" ", 96), 96);
        fault("sale", 4);
        fault("sale   ", 7);
        fault("sale (", 6);
        fault("sale (k", 7);
        fault("sale (k  ", 9);
        fault("sale !", 6);
        fault("sale ! ", 7);
        fault("sale k+", 7);
        fault("sale k+ ", 8);
        fault("sale k<", 7);
        fault("sale k&", 7);
        fault("sale k|   ", 10);
        fault("sale k*", 7);
        fault("sale ((k)", 9);
    }

    @Edge(at = "Terms 3", says = "Ints wrap; / is 0 by 0")
    static void wraps() {
        // 2048 * 1024 * 1024 is 2 to the 31st: the least int
        gives("2048*1024*1024<0", 1);
        gives("2048*1024*1024-1>0", 1);
        gives("2048*1024*1024-1+1<0", 1);
        gives("2048*1024*1024+2048*1024*1024", 0);
        gives("(2048*1024*1024-1+1=2048*1024*1024)*7", 7);
        gives("2048*1024*1024*2+5", 5);
        gives("(2048*1024*1024-1)*(2048*1024*1024-1)", 1);
        gives("2048*1024*1024/(0-1)=2048*1024*1024", 1);
        gives("0-2048*1024*1024=2048*1024*1024", 1);
        gives("5/0", 0);
        gives("0/0", 0);
        gives("(0-5)/0+9", 9);
        gives("5/0*7+3", 3);
        gives("8/(k-5)+4", 4);
    }

    @Edge(at = "Terms 3", says = "tests, & | ! give 1 or 0 (what is not 0 is true; both sides are worked out)")
    static void trueOnes() {
        gives("7&9", 1);
        gives("7&(0-9)", 1);
        gives("7&0", 0);
        gives("0&7", 0);
        gives("7|9", 1);
        gives("0|(0-1)", 1);
        gives("0|0", 0);
        gives("!0", 1);
        gives("!1", 0);
        gives("!7", 0);
        gives("!(0-1)", 0);
        gives("!!7", 1);
        gives("2<3", 1);
        gives("3<3", 0);
        gives("3>3", 0);
        gives("3=3", 1);
        gives("4>3", 1);
        gives("3=4", 0);
        gives("(0-1)<0", 1);
        gives("1|5/0", 1);
        gives("0&5/0", 0);
        // a single PIECE is as it is
        gives("7", 7);
        gives("(7)", 7);
        gives("7&9&9", 1);
        gives("7+(7&9)", 8);
    }

    @Edge(at = "Terms 3", says = "SUM: TERM { (+ | -) TERM }; TERM: PIECE { (* | /) PIECE }")
    static void looseAndTight() {
        gives("20-5-4", 11);
        gives("90/9/5", 2);
        gives("7/2*2", 6);
        gives("2+3*4", 14);
        gives("9-8/4", 7);
        gives("1|0&0", 1);
        gives("0&0|1", 1);
        gives("5<3&1", 0);
        gives("1+1=2", 1);
        gives("!0+5", 6);
        gives("!0*5", 5);
        gives("!5=0", 1);
        gives("!(5=0)", 1);
        gives("(1|0)&0", 0);
        gives("(0&0)|1", 1);
        gives("(!0)+5", 6);
        gives("(!7)+3", 3);
        gives("(!!7)*4", 4);
        gives("!(!(!0))", 1);
        gives("3*(1|2)", 3);
        gives("(2<3)<(3<2)", 0);
    }

    @Edge(at = "Terms 3", says = "Of a KEY that TEXT counts that was told last.")
    static void toldLast() {
        PhoneBench x = Scene.withModel(1000, 0);
        for (int i = 0; i < 13; i++) {
            Due.is("text", Due.text(x, "scrap " + (i + 20)), i);
            Due.is("it counts", x.why(1), i);
        }
        Due.is("another KEY", Due.text(x, "sale 0"), 13);
        Due.is("why(1)", x.why(1), 12);
        Due.is("FULL", Due.text(x, "scrap 1"), Due.FULL);
        Due.is("a FAULT", Due.text(x, "scrap 1 1"), -108);
        Due.is("why(1)", x.why(1), 12);
        x.phone(0, 0, 0);
        x.strip(0);
        Due.is("the last one", x.count(10), 32);
    }

    private static PhoneBench fed(int bytes) {
        PhoneBench x = new PhoneBench();
        for (int i = 0; i < (bytes + 11) / 12; i++) {
            x.feed(0x73616C65, 0x206B2020, BLANKS);
        }
        x.trim(bytes);
        return x;
    }

    @Edge(at = "Promise 21", says = "Twelve bytes come to THE TAPE, the highest of each number first: how many it has.")
    static void feeds() {
        String s = "sale k+(1*2)";
        PhoneBench x = new PhoneBench();
        Due.is("feed", x.feed(0x73616C65, 0x206B2B28, 0x312A3229), 12);
        Due.is("as " + s, x.text(), 0);
        Due.is("its leaves", x.textTold(0, 1), 3);
        for (int place = 0; place < 12; place++) {
            // a byte above 127 at one place, blanks ahead of it
            int[] n = {BLANKS, BLANKS, BLANKS};
            n[place / 4] |= 0xFF << (24 - 8 * (place % 4));
            PhoneBench y = new PhoneBench();
            Due.is("feed", y.feed(n[0], n[1], n[2]), 12);
            Due.is("the byte at " + place, y.text(), -100 - place);
        }
        PhoneBench z = new PhoneBench();
        Due.is("the least", z.feed(Due.LEAST, Due.LEAST, Due.LEAST), 12);
        Due.is("the most", z.feed(Due.MOST, -1, 0), 24);
        // bytes 48 .. are the first of the fifth feed
        PhoneBench w = fed(4);
        for (int i = 0; i < 7; i++) {
            Due.is("feed", w.feed(BLANKS, BLANKS, BLANKS), 16 + 12 * i);
        }
        Due.is("feed beyond", w.feed(BLANKS, BLANKS, BLANKS), Due.FULL);
    }

    @Edge(at = "Promise 21", says = "FULL: it would have more than 96.")
    static void feedFull() {
        for (int bytes = 0; bytes <= 96; bytes++) {
            int has = bytes;
            PhoneBench x = fed(bytes);
            if (bytes <= 84) {
                Due.is("feed to " + bytes, x.feed(1, 2, 3), bytes + 12);
            } else {
                Edges.refused("feed to " + bytes, () -> fed(has), y -> y.feed(1, 2, 3), Due.FULL);
            }
        }
        Edges.refused("feed", Scene::full, x -> x.feed(BLANKS, BLANKS, BLANKS), Due.FULL);
    }

    @Edge(at = "Promise 22", says = "THE TAPE keeps its first n bytes: n.")
    static void trims() {
        PhoneBench x = fed(12);
        Due.is("all", x.trim(12), 12);
        Due.is("one less", x.trim(11), 11);
        Due.is("to the K", x.trim(6), 6);
        Due.is("the first bytes stay", x.text(), 0);
        PhoneBench y = fed(96);
        Due.is("all", y.trim(96), 96);
        Due.is("none", y.trim(0), 0);
        Due.is("none of none", y.trim(0), 0);
        Due.is("count(13)", y.count(13), 0);
        Due.is("what was cut off does not come back", y.feed(0x62616368, 0x20317C7C, BLANKS), 12);
        Due.is("bach", y.text(), -100);
    }

    @Edge(at = "Promise 22", says = "BAD (below 0; it has not so many).")
    static void trimBad() {
        Edges.refusedFor("trim", Due.BAD, PhoneBench::trim, -1, Scene.BUSY_BYTES + 1, 96, Due.LEAST, Due.MOST);
        Edges.refused("trim(1) of none", PhoneBench::new, x -> x.trim(1), Due.BAD);
        Edges.refused("trim(97)", Scene::full, x -> x.trim(97), Due.BAD);
        PhoneBench y = fed(12);
        y.trim(5);
        Due.is("not more than it has now", y.trim(6), Due.BAD);
    }

    @Edge(at = "Promise 23", says = "-100 less the place of its FAULT")
    static void textFaults() {
        fault("", 0);
        fault(many(" ", 95) + ")", 95);
        fault(many(" ", 96), 96);
        for (int ahead = 0; ahead <= 90; ahead += 9) {
            fault(many(" ", ahead) + "sale )", ahead + 5);
        }
        PhoneBench x = new PhoneBench();
        Due.is("a FAULT takes no number", Due.text(x, "sale"), -104);
        Due.is("the first", Due.text(x, "sale 1"), 0);
        Due.is("a FAULT takes no number", Due.text(x, "back d"), -105);
        Due.is("the second", Due.text(x, "back 1"), 1);
        Due.is("why(0)", x.why(0), 0);
        Due.is("why(2)", x.why(2), 1);
    }

    @Edge(at = "Promise 23", says = "THE TAPE is a TEXT: its number.")
    static void nothingIsLeftOfAnotherText() {
        String[] faulty = {"scrap 1+2*(!(3", "scrap " + many("(", 8), "scrap " + many("!", 8), "scrap 1<", "scrap 5 6", "scrap", "sale g"};
        for (String s : faulty) {
            PhoneBench x = Scene.withPhone(0, 0, 0);
            Due.holds("a FAULT", Due.text(x, s) <= -100);
            Due.is("a TEXT behind it", Due.text(x, "scrap " + many("(", 8) + many("!", 7) + "0" + many(")", 8) + "+!0*5-3"), 0);
            Due.is("its leaves", x.textTold(0, 1), 4);
            x.strip(0);
            Due.is("what it gives", x.count(10), 1 + 5 - 3);
        }
        PhoneBench y = Scene.withPhone(0, 0, 0);
        for (int i = 0; i < 14; i++) {
            Due.is("a TEXT of 96 bytes", Due.text(y, "scrap  " + (i % 10) + many("+1", 44)), i);
            Due.is("its leaves", y.textTold(i, 1), 45);
        }
        y.strip(0);
        Due.is("what the last one gives", y.count(10), 47);
    }

    @Edge(at = "Promise 23", says = "FULL")
    static void textFull() {
        PhoneBench x = Scene.full();
        Due.is("FULL", x.text(), Due.FULL);
        Due.is("count(6)", x.count(6), 14);
        Due.is("used up", x.count(13), 0);
        Due.is("no law of sale", x.why(0), Due.NONE);
        Due.is("FAULT stands ahead of it", Due.text(x, "sale k k"), -107);
        Due.is("FAULT of an empty one", x.text(), -100);
        x.keep();
        x.back();
        Due.is("FULL behind an IMAGE, too", Due.text(x, "sale k"), Due.FULL);
    }

    @Edge(at = "Promise 24", says = "what 0 KEY (0 sale, 1 scrap, 2 back), 1 how many NUMBERS and NAMES it has")
    static void textsTold() {
        PhoneBench x = new PhoneBench();
        String[] text = {"sale k", "scrap 1", "back b", "sale " + many("k+", 45) + "1", "scrap !(((7)))"};
        int[] key = {0, 1, 2, 0, 1};
        int[] leaves = {1, 1, 1, 46, 1};
        for (int i = 0; i < text.length; i++) {
            Due.is("text", Due.text(x, text[i]), i);
            Due.is("KEY", x.textTold(i, 0), key[i]);
            Due.is("NUMBERS and NAMES", x.textTold(i, 1), leaves[i]);
        }
    }

    @Edge(at = "Promise 24", says = "BAD")
    static void textToldBad() {
        Edges.refusedFor("textTold(text, 0)", Due.BAD, (x, v) -> x.textTold(v, 0), -1, 3, 14, Due.LEAST, Due.MOST);
        Edges.refusedFor("textTold(0, what)", Due.BAD, (x, v) -> x.textTold(0, v), -1, 2, Due.LEAST, Due.MOST);
        Edges.refused("textTold(0, 0) of none", PhoneBench::new, x -> x.textTold(0, 0), Due.BAD);
        Edges.refused("textTold(14, 0)", Scene::full, x -> x.textTold(14, 0), Due.BAD);
        Due.is("textTold(13, 0)", Scene.full().textTold(13, 0), 1);
        PhoneBench y = new PhoneBench();
        y.keep();
        Due.text(y, "sale 1");
        y.back();
        Due.is("it is gone with the IMAGE", y.textTold(0, 0), Due.BAD);
    }

    @Edge(at = "Promise 25", says = "BAD")
    static void whyBad() {
        Edges.refusedFor("why", Due.BAD, PhoneBench::why, -1, 3, Due.LEAST, Due.MOST);
        PhoneBench x = Scene.busy();
        Due.is("why(0)", x.why(0), 0);
        Due.is("why(2)", x.why(2), 1);
    }

    @Edge(at = "Promise 25", says = "NONE")
    static void whyNone() {
        for (int key = 0; key < 3; key++) {
            int its = key;
            Edges.refused("why(" + key + ") of none", PhoneBench::new, x -> x.why(its), Due.NONE);
        }
        PhoneBench x = new PhoneBench();
        Due.text(x, "back 1");
        Due.is("why(0)", x.why(0), Due.NONE);
        Due.is("why(1)", x.why(1), Due.NONE);
        Due.is("why(2)", x.why(2), 0);
    }
}
