import java.util.Random;

/** Promises 45 to 49: tell, proves, keep, back, count. */
public final class RowsTest {
    public static void main(String[] args) {
        tells();
        proofs();
        beyondTheLastDay();
        images();
        counts();
        Random random = new Random(45);
        for (int run = 0; run < 150; run++) {
            daysTold(random);
        }
        Due.end("RowsTest");
    }

    private static void tells() {
        PhoneBench x = new PhoneBench();
        for (int i = 1; i <= 60; i++) {
            Due.is("tell", x.tell(-i), i);
        }
        Due.is("the 61st", x.tell(0), Due.FULL);
        Due.is("count(12)", x.count(12), 60);
        Due.is("no image", x.proves(1), Due.NO);
        Due.is("none wait, whatever is answered", x.count(12), 0);
        Due.is("tell", x.tell(5), 1);
        Due.is("BAD ahead of NO", x.proves(0), Due.BAD);
        Due.is("none wait, whatever is answered", x.count(12), 0);
        x.keep();
        x.tell(5);
        Due.is("proves(31)", x.proves(31), Due.BAD);
        Due.is("proves(-1)", x.proves(-1), Due.BAD);
        Due.is("none wait", x.count(12), 0);
    }

    private static void told(PhoneBench x, int... numbers) {
        for (int v : numbers) {
            x.tell(v);
        }
    }

    private static void proofs() {
        PhoneBench x = new PhoneBench();
        x.model(1007, 0);
        x.phone(0, 0, 255);
        x.phone(0, 0, 255);
        x.phone(0, 0, 255);
        x.phone(0, 999, 255);
        x.mend(1, 0);
        x.strip(2);
        x.mend(3, 0);
        x.flag(3, 0, true);
        x.sell(3);
        x.keep();
        // one IN, one MENDED, each worth 93, 86, ..; the sold one comes back on the first day (see DaysTest)
        String was = Due.state(x);
        told(x, 186, 1, 172, 1);
        Due.is("all right", x.proves(2), 0);
        Due.holds("nothing changes", was.equals(Due.state(x)));
        told(x, 186, 1, 172);
        Due.is("one is missing", x.proves(2), 4);
        Due.is("all are missing", x.proves(2), 1);
        told(x, 186, 1, 172, 1, 0);
        Due.is("one too many", x.proves(2), 5);
        told(x, 186, 1, 172, 1);
        Due.is("two too many", x.proves(1), 3);
        told(x, 186, 0, 172, 1);
        Due.is("the second is wrong", x.proves(2), 2);
        told(x, 187, 0, 172, 1);
        Due.is("the first is wrong", x.proves(2), 1);
        told(x, 186, 1, 171, 1);
        Due.is("the third is wrong", x.proves(2), 3);
        told(x, 186, 1, 172, 2);
        Due.is("the fourth is wrong", x.proves(2), 4);
        x.run(20);
        x.strip(0);
        told(x, 186, 1);
        Due.is("from the image on, not from now", x.proves(1), 0);
    }

    private static void beyondTheLastDay() {
        PhoneBench x = new PhoneBench();
        x.model(9991, 0);
        x.phone(0, 0, 255);
        for (int i = 0; i < 16; i++) {
            x.run(60);
        }
        x.run(38);
        Due.is("keep()", x.keep(), 998);
        // ASKED is 999 less the day: 1 on day 998, 1 at least
        told(x, 1, 0, 1, 0, 1, 0);
        Due.is("days go beyond 999", x.proves(3), 0);
        Due.is("the day stays", x.count(11), 998);
    }

    private static void images() {
        PhoneBench x = new PhoneBench();
        Due.is("back()", x.back(), Due.NO);
        x.model(2003, 5);
        x.common(2);
        x.stock(0, 0, 9);
        x.phone(1, 250, 254);
        x.phone(0, 100, 255);
        x.promise(1, 44);
        x.choose(0);
        Due.text(x, "sale s>9");
        x.check(15);
        x.weigh(3, 8);
        x.seed(77);
        x.run(4);
        Due.is("keep()", x.keep(), 4);
        String was = Due.state(x);
        for (int again = 0; again < 3; again++) {
            x.model(1000, 0);
            x.common(again);
            x.stock(0, 0, 1 + again);
            x.mend(0, 2);
            x.strip(1);
            x.phone(3, 1000, 9);
            x.flag(2, 0, true);
            x.flag(2, 1, true);
            x.flag(1, 0, true);
            x.flag(1, 1, true);
            x.promise(1, again);
            x.turns(0, 4);
            x.clear();
            x.choose(2);
            x.phone(0, 0, 255);
            x.choose(3);
            Due.text(x, "sale 0");
            Due.text(x, "scrap 9");
            x.check(51);
            x.says(0, true);
            x.weigh(3, 1);
            x.seed(again);
            x.run(3);
            Due.is("back()", x.back(), 4);
            Due.holds("all is as the image", was.equals(Due.state(x)));
            Due.is("common", x.common(2), 2);
            Due.is("weight", x.weigh(3, 8), 8);
            Due.is("told ones", x.noon(0), 0);
            Due.is("the law that counts", x.why(0), 0);
            Due.is("no law", x.why(1), Due.NONE);
            Due.is("textTold(1, 0)", x.textTold(1, 0), Due.BAD);
        }
        Due.is("a new one has nothing of an old one", x.phone(0, 0, 255), 2);
        Due.is("told(2, 6)", x.told(2, 6), 0);
        Due.is("told(2, 7)", x.told(2, 7), 0);
        Due.is("told(2, 12)", x.told(2, 12), 999);
        x.sheet(0, 0, 2);
        x.lay(0, 3, 9);
        x.tell(1);
        x.feed(1, 2, 3);
        x.keep();
        x.sheet(0, 1, 5);
        x.mark(0, 4, 3);
        x.lay(0, 3, 10);
        x.tell(2);
        x.feed(1, 2, 3);
        x.run(1);
        Due.is("back()", x.back(), 4);
        Due.is("sheets stay", x.mark(0, 4, 3), 1);
        Due.is("slots stay", x.rest(0, 100), 10);
        Due.is("numbers stay", x.count(12), 2);
        Due.is("the tape stays", x.count(13), 24);
        x.run(5);
        Due.is("another image", x.keep(), 9);
        x.run(5);
        Due.is("back()", x.back(), 9);
    }

    private static void counts() {
        PhoneBench x = new PhoneBench();
        Due.is("count(15)", x.count(15), Due.BAD);
        Due.is("count(-1)", x.count(-1), Due.BAD);
        x.model(1000, 0);
        x.model(1000, 0);
        for (int i = 0; i < 10; i++) {
            x.phone(0, 999, 255);
        }
        for (int i = 0; i < 5; i++) {
            x.mend(i, 0);
            x.flag(i, 0, true);
        }
        x.sell(0);
        x.sell(1);
        x.strip(9);
        x.flag(8, 1, true);
        x.hold(8);
        x.choose(5);
        Due.text(x, "back 1");
        Due.text(x, "back 1");
        x.check(3);
        x.check(5);
        x.says(0, true);
        x.run(60);
        x.tell(1);
        x.tell(1);
        x.feed(0, 0, 0);
        int[] due = {2, 10, 3, 3, 2, 2, 2, 2, 3, 1, 3 - 25 + 50 + 50, 60, 2, 12};
        for (int what = 0; what < due.length; what++) {
            Due.is("count(" + what + ")", x.count(what), due[what]);
        }
        x.seed(-5);
        Due.is("count(14)", x.count(14), -5);
    }

    /** Rows that another object, of the same calls, tells day by day are proved by this one. */
    private static void daysTold(Random random) {
        long seed = random.nextLong();
        PhoneBench x = made(new Random(seed));
        PhoneBench y = made(new Random(seed));
        int n = 1 + random.nextInt(30);
        int[] row = new int[2 * n];
        for (int day = 0; day < n; day++) {
            y.run(1);
            for (int i = 0; i < y.count(1); i++) {
                row[2 * day] += y.told(i, 5) < 2 ? y.told(i, 11) : 0;
            }
            row[2 * day + 1] = y.count(5);
        }
        x.keep();
        x.run(7);
        told(x, row);
        Due.is("proves(" + n + ")", x.proves(n), 0);
        int wrong = random.nextInt(row.length);
        row[wrong]++;
        told(x, row);
        Due.is("proves(" + n + "), a wrong one", x.proves(n), 1 + wrong);
    }

    private static PhoneBench made(Random random) {
        PhoneBench x = new PhoneBench();
        x.model(10 + random.nextInt(9990), random.nextInt(256));
        x.model(10 + random.nextInt(9990), random.nextInt(256));
        x.common(random.nextInt(256));
        if (random.nextBoolean()) {
            Due.text(x, "back s<70&b<3");
        }
        x.seed(random.nextInt());
        for (int i = 0; i < 16; i++) {
            x.phone(random.nextInt(6), random.nextInt(2000), random.nextInt(256));
            x.strip(random.nextInt(16));
            x.mend(random.nextInt(16), random.nextInt(4));
            int phone = random.nextInt(16);
            x.flag(phone, 0, true);
            x.sell(phone);
        }
        for (int sort = 0; sort < 8; sort++) {
            x.stock(0, sort, 99);
            x.stock(1, sort, 99);
        }
        for (int i = 0; i < 16; i++) {
            if (x.mend(i, random.nextInt(4)) >= 0) {
                x.flag(i, 0, random.nextInt(4) > 0);
                x.sell(i);
            }
        }
        return x;
    }
}
