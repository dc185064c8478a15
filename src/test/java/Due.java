/** What the tests of the project share: answers are told against what is due, and counted. */
final class Due {
    static final int BAD = -1000000001, NO = -1000000002, FULL = -1000000003, NONE = -1000000005;
    static final int NOTHING = -1000000011, KIND = -1000000012, INDEX = -1000000013, SIZE = -1000000014;
    static final int LEAST = Integer.MIN_VALUE, MOST = Integer.MAX_VALUE;

    private static int passed = 0;
    private static int failed = 0;
    private static String about = "";

    private Due() {
    }

    static void is(String call, long got, long want) {
        if (got == want) {
            passed++;
            return;
        }
        fail(call + " answered " + got + ", due is " + want);
    }

    static void same(String call, String got, String want) {
        if (got.equals(want)) {
            passed++;
            return;
        }
        int at = 0;
        while (at < got.length() && at < want.length() && got.charAt(at) == want.charAt(at)) {
            at++;
        }
        fail(call + ", yet from place " + at + " on it is\n  " + got + "\n  and was\n  " + want);
    }

    private static void fail(String why) {
        failed++;
        if (failed <= 40) {
            System.out.println(about.isEmpty() ? why : about + ": " + why);
        }
    }

    /** What the tests that follow are about; it is told with an answer that is not due. */
    static void about(String what) {
        about = what;
    }

    static int told() {
        return passed + failed;
    }

    static void holds(String what, boolean so) {
        is(what, so ? 1 : 0, 1);
    }

    /** Ends a test class: exit code 1 if an answer was not the one that is due. */
    static void end(String name) {
        System.out.println(name + ": " + passed + " passed, " + failed + " failed");
        if (failed > 0 || passed == 0) {
            System.exit(1);
        }
    }

    /** Puts a text (characters 0 .. 255, up to 96) on an empty tape. */
    static void tape(PhoneBench x, String s) {
        int groups = (s.length() + 11) / 12;
        int[] n = new int[groups * 3];
        for (int i = 0; i < s.length(); i++) {
            n[i / 4] |= s.charAt(i) << (24 - 8 * (i % 4));
        }
        for (int i = 0; i < groups; i++) {
            is("feed", x.feed(n[3 * i], n[3 * i + 1], n[3 * i + 2]), 12 * (i + 1));
        }
        is("trim(" + s.length() + ")", x.trim(s.length()), s.length());
    }

    static int text(PhoneBench x, String s) {
        tape(x, s);
        return x.text();
    }

    /** All that count tells, in one row. */
    static String counts(PhoneBench x) {
        StringBuilder row = new StringBuilder();
        for (int what = 0; what < 15; what++) {
            row.append(x.count(what)).append(' ');
        }
        return row.toString();
    }

    /** All that told and has tell, in one row. */
    static String state(PhoneBench x) {
        StringBuilder row = new StringBuilder(counts(x));
        for (int phone = 0; phone < x.count(1); phone++) {
            for (int what = 0; what < 16; what++) {
                row.append(x.told(phone, what)).append(' ');
            }
        }
        for (int model = 0; model < x.count(0); model++) {
            for (int sort = 0; sort < 8; sort++) {
                row.append(x.has(model, sort)).append(' ');
            }
        }
        for (int key = 0; key < 3; key++) {
            row.append(x.why(key)).append(' ');
        }
        return row.toString();
    }
}
