import java.util.Random;

/** Promise 23 in another way: TEXTS are read by going down the rules, one method a rule, and worked out on the way. */
public final class LawsByTreeTest {
    /** Where no TEXT goes on. */
    private static final class Fault extends Exception {
        private static final long serialVersionUID = 1L;
        final int place;

        Fault(int place) {
            this.place = place;
        }
    }

    private static final String[] AHEAD = {"", "sale 1+2*(!(3", "scrap !!!!!!!!(((((((( ", "back", "sale k=(1+2)*"};

    private final String s;
    private int at = 0;
    private int brackets = 0;
    private int nots = 0;
    private int leaves = 0;
    private String names = "";
    private final int k = 3;
    private final int g = 5;
    private final int d = 11;

    private LawsByTreeTest(String s) {
        this.s = s;
    }

    private static boolean isWordByte(char c) {
        return c >= 'a' && c <= 'z' || c >= '0' && c <= '9';
    }

    private static boolean isLetter(char c) {
        return c >= 'a' && c <= 'z';
    }

    private void blanks() {
        while (at < s.length() && s.charAt(at) == ' ') {
            at++;
        }
    }

    private char peek() {
        blanks();
        return at < s.length() ? s.charAt(at) : (char) 0xFFFF;
    }

    private String word() {
        int from = at;
        while (at < s.length() && isWordByte(s.charAt(at)) && isLetter(s.charAt(at)) == isLetter(s.charAt(from))) {
            at++;
        }
        return s.substring(from, at);
    }

    private int all() throws Fault {
        blanks();
        int from = at;
        String key = word();
        switch (key) {
            case "sale": names = "kfsd"; break;
            case "scrap": names = "kgd"; break;
            case "back": names = "bsf"; break;
            default: throw new Fault(from);
        }
        if (at < s.length() && isWordByte(s.charAt(at))) {
            throw new Fault(at);
        }
        int v = or();
        if (peek() != 0xFFFF) {
            throw new Fault(at);
        }
        return v;
    }

    private int or() throws Fault {
        int v = and();
        while (peek() == '|') {
            at++;
            int w = and();
            v = v != 0 | w != 0 ? 1 : 0;
        }
        return v;
    }

    private int and() throws Fault {
        int v = test();
        while (peek() == '&') {
            at++;
            int w = test();
            v = v != 0 & w != 0 ? 1 : 0;
        }
        return v;
    }

    private int test() throws Fault {
        int v = sum();
        char c = peek();
        if (c == '<' || c == '=' || c == '>') {
            at++;
            int w = sum();
            return (c == '<' ? v < w : c == '=' ? v == w : v > w) ? 1 : 0;
        }
        return v;
    }

    private int sum() throws Fault {
        int v = term();
        for (char c = peek(); c == '+' || c == '-'; c = peek()) {
            at++;
            int w = term();
            v = c == '+' ? v + w : v - w;
        }
        return v;
    }

    private int term() throws Fault {
        int v = piece();
        for (char c = peek(); c == '*' || c == '/'; c = peek()) {
            at++;
            int w = piece();
            v = c == '*' ? v * w : w == 0 ? 0 : v / w;
        }
        return v;
    }

    private int piece() throws Fault {
        char c = peek();
        int from = at;
        if (c == '!' && nots < 8) {
            at++;
            nots++;
            int v = piece();
            nots--;
            return v == 0 ? 1 : 0;
        }
        if (c == '(' && brackets < 8) {
            at++;
            brackets++;
            int v = or();
            if (peek() != ')') {
                throw new Fault(at);
            }
            at++;
            brackets--;
            return v;
        }
        if (!isWordByte(c)) {
            throw new Fault(from);
        }
        String word = word();
        boolean named = word.length() == 1 && names.contains(word);
        boolean number = !isLetter(c) && word.length() <= 4;
        if (!named && !number) {
            throw new Fault(from);
        }
        leaves++;
        return number ? Integer.parseInt(word) : c == 'k' ? k : c == 'g' ? g : d;
    }

    public static void main(String[] args) {
        Random random = new Random(23);
        int fine = 0;
        for (int run = 0; run < 60000; run++) {
            String s = random.nextInt(4) == 0 ? noise(random) : bent(written(random), random);
            fine += compared(s.substring(0, Math.min(96, s.length()))) ? 1 : 0;
        }
        Due.holds("many texts are fine: " + fine, fine > 10000);
        Due.end("LawsByTreeTest");
    }

    private static boolean compared(String s) {
        LawsByTreeTest tree = new LawsByTreeTest(s);
        int due = 0;
        int v = 0;
        try {
            v = tree.all();
        } catch (Fault fault) {
            due = -100 - fault.place;
        }
        PhoneBench x = new PhoneBench();
        // what an earlier FAULT leaves open is no matter
        Due.is("a fault ahead", Due.text(x, AHEAD[s.length() % AHEAD.length]), -100 - AHEAD[s.length() % AHEAD.length].length());
        Due.is("text(" + s + ")", Due.text(x, s), due);
        if (due < 0) {
            return false;
        }
        Due.is("leaves of " + s, x.textTold(0, 1), tree.leaves);
        if (x.textTold(0, 0) == 1) {
            x.model(1000, 0);
            x.phone(tree.k, 0, 31);
            x.run(tree.d);
            x.strip(0);
            Due.is(s, x.count(10), Math.max(0, Math.min(99, v)));
        }
        return true;
    }

    private static String pick(Random random, String... of) {
        return of[random.nextInt(of.length)];
    }

    private static String written(Random random) {
        String key = pick(random, "scrap", "scrap", "scrap", "sale", "back");
        StringBuilder out = new StringBuilder(pick(random, "", "", " ")).append(key).append(' ');
        write(random, out, key, 1 + random.nextInt(5));
        return out.append(pick(random, "", "", "  ")).toString();
    }

    private static void write(Random random, StringBuilder out, String key, int depth) {
        switch (depth <= 0 ? random.nextInt(2) : random.nextInt(8)) {
            case 0: out.append(random.nextInt(random.nextBoolean() ? 10 : 10000)); break;
            case 1:
                String own = key.equals("sale") ? "kfsd" : key.equals("scrap") ? "kgd" : "bsf";
                out.append(own.charAt(random.nextInt(own.length())));
                break;
            case 2:
                out.append("!");
                write(random, out, key, depth - 1);
                break;
            case 3: case 4:
                out.append("(");
                write(random, out, key, depth - 1);
                out.append(")");
                break;
            default:
                write(random, out, key, depth - 1);
                out.append(pick(random, "|", "&", "<", "=", ">", "+", "-", "*", "/", " + ", " & "));
                write(random, out, key, depth - 1);
        }
    }

    private static String bent(String s, Random random) {
        StringBuilder out = new StringBuilder(s);
        for (int turn = random.nextInt(3); turn > 0; turn--) {
            int place = random.nextInt(out.length());
            String sign = pick(random, "(", "(((((((((", ")", "!", "!!!!!!!!!", " ", "k", "7", "12345", "<", "=", "+", "&",
                "|", "A", "\0", "" + (char) 200, "sale", "b", "g", "\t");
            switch (random.nextInt(3)) {
                case 0: out.insert(place, sign); break;
                case 1: out.replace(place, place + 1, sign); break;
                default: out.setLength(Math.max(1, place));
            }
        }
        return out.toString();
    }

    private static String noise(Random random) {
        StringBuilder out = new StringBuilder(pick(random, "scrap ", "scrap(", "scrap!", "scrap", "sale ", "back "));
        for (int n = random.nextInt(30); n > 0; n--) {
            out.append(pick(random, "(", "(", "!", "!", ")", "k", "g", "1", "23", " ", "+", "*", "<", "|"));
        }
        return out.toString();
    }
}
