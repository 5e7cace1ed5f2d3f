/** Promises 11 to 13: what is foretold, and that foretelling changes nothing. */
public final class ForetellingTest {
    private static final Class<? extends RuntimeException> ILLEGAL = IllegalArgumentException.class;
    private static final Class<? extends RuntimeException> INDEX = IndexOutOfBoundsException.class;

    public static void main(String[] args) {
        foretold();
        foretoldLikePassed();
        period();
        breaksIn();
        nothingChanges();
        Check.end();
    }

    private static void foretold() {
        SpringChain x = Check.loaded("chain 1;pluck 0 1000;");
        Check.row("in one tick", k -> x.foretold(1, 0, k), ILLEGAL, 800, -2000, 800, 0, 0);
        // 800 -> momentum -3600, 440 -> -4480, -8 -> -4464, -454
        Check.row("in four ticks", k -> x.foretold(4, 0, k), ILLEGAL, -454, -4464, 800, 0, 0);
        Check.row("the masses", k -> x.foretold(1, k, 0), INDEX, 800);
        Check.row("at rest", k -> new SpringChain().foretold(9, 0, k), ILLEGAL, 0, 0, 0, 0, 0);
        Check.throwsDue("0 ticks", ILLEGAL, () -> x.foretold(0, 0, 0));
        Check.throwsDue("201 ticks", ILLEGAL, () -> x.foretold(201, 0, 0));
        Check.due("200 ticks", true, () -> x.foretold(200, 0, 2) >= 800);
        Check.throwsDue("mass ahead of ticks and what", INDEX, () -> x.foretold(0, 1, 5));
    }

    private static void foretoldLikePassed() {
        SpringChain x = Check.loaded("chain 3;springs 60;spring 1 60 limit 90;spring 2 9 limit 200;pluck 1 80;damp 3;"
                + "strike 0 -300;impulse 4 2 900;impulse 40 0 -7000;end right 30;");
        SpringChain y = Check.loaded("chain 3;springs 60;spring 1 60 limit 90;spring 2 9 limit 200;pluck 1 80;damp 3;"
                + "strike 0 -300;impulse 4 2 900;impulse 40 0 -7000;end right 30;");
        int greatest = 0;
        for (int t = 1; t <= 50; t++) {
            int ticks = t;
            y.pass(1);
            greatest = Math.max(greatest, Math.abs(y.mass(2, 1)));
            Check.row("in " + t, k -> x.foretold(ticks, 2, k), ILLEGAL, y.mass(2, 1), y.mass(2, 2), greatest,
                    y.state(2), y.state(8));
        }
        Check.due("springs broke", true, () -> y.state(2) > 0);
    }

    private static void period() {
        SpringChain x = Check.loaded("chain 1;masses 1;pluck 0 -100;");
        Check.due("it rises in ticks 1 and 5", 4, () -> x.period(0, 5));
        Check.due("limit 4", -1, () -> x.period(0, 4));
        Check.due("limit 1", -1, () -> x.period(0, 1));
        Check.due("limit 300", 4, () -> x.period(0, 300));
        Check.throwsDue("limit 0", ILLEGAL, () -> x.period(0, 0));
        Check.throwsDue("limit 301", ILLEGAL, () -> x.period(0, 301));
        Check.throwsDue("mass ahead of limit", INDEX, () -> x.period(1, 0));
        Check.throwsDue("mass -1", INDEX, () -> x.period(-1, 5));
        // displacements 1, 2, 0, 1: it rises in ticks 1 and 4, and not from 1 to 2
        SpringChain small = Check.loaded("chain 1;masses 1;springs 0;impulse 0 0 1;impulse 2 0 -3;impulse 3 0 3;");
        Check.due("from 0 to 1 and not from 1 to 2", 3, () -> small.period(0, 4));
        SpringChain y = Check.loaded("chain 1;strike 0 50;");
        int first = 0;
        int second = 0;
        SpringChain z = Check.loaded("chain 1;strike 0 50;");
        for (int t = 1; second == 0 && t < 50; t++) {
            int ahead = z.mass(0, 1);
            z.pass(1);
            if (ahead <= 0 && z.mass(0, 1) > 0) {
                second = first > 0 ? t : 0;
                first = first > 0 ? first : t;
            }
        }
        Check.due("from 0 it rises at once", 1, foundAs(first));
        Check.due("from 0", second - first, () -> y.period(0, 300));
        Check.due("the limit is the tick of the second", second - first, limited(y, second));
        Check.due("one less is too few", -1, limited(y, second - 1));
    }

    private static Check.Call foundAs(int n) {
        return () -> n;
    }

    private static Check.Call limited(SpringChain x, int limit) {
        return () -> x.period(0, limit);
    }

    private static void breaksIn() {
        SpringChain x = Check.loaded("chain 1;springs 0;spring 0 0 limit 10;strike 0 100;");
        Check.due("the limit itself does not break", -1, () -> x.breaksIn(1));
        Check.due("in two", 2, () -> x.breaksIn(2));
        Check.due("in two of 200", 2, () -> x.breaksIn(200));
        Check.throwsDue("0", ILLEGAL, () -> x.breaksIn(0));
        Check.throwsDue("201", ILLEGAL, () -> x.breaksIn(201));
        Check.due("passed", 1, () -> x.pass(2));
        Check.due("a broken one does not break", -1, () -> x.breaksIn(200));
        SpringChain y = Check.loaded("chain 1;springs 0;spring 1 0 limit 10;strike 0 100;");
        Check.due("less than -limit", 2, () -> y.breaksIn(200));
        Check.due("no limit never breaks", -1,
                () -> Check.loaded("chain 1;springs 0;strike 0 100000;").breaksIn(200));
    }

    private static void nothingChanges() {
        SpringChain x = Check.loaded("chain 2;spring 1 200 limit 9;pluck 0 5;strike 1 70;impulse 3 1 9;");
        long before = x.checksum();
        x.foretold(200, 1, 4);
        x.period(1, 300);
        x.breaksIn(200);
        Check.due("checksum", before, x::checksum);
        Check.due("impulses", 1, () -> x.state(6));
        Check.due("no change", 0, x::undo);
    }
}
