import java.util.NoSuchElementException;

/** Promises 5 to 10, 14, 15 and 24: what the data tell, with ticks that were worked out by hand. */
public final class TellingTest {
    private static final Class<? extends RuntimeException> ILLEGAL = IllegalArgumentException.class;
    private static final Class<? extends RuntimeException> INDEX = IndexOutOfBoundsException.class;
    private static final Class<? extends RuntimeException> NONE = NoSuchElementException.class;

    public static void main(String[] args) {
        aTickByHand();
        nodesAndPatterns();
        farthestAndResting();
        massAndSpring();
        noted();
        atMost32Patterns();
        waiting();
        pieces();
        centre();
        checksum();
        Check.end();
    }

    private static void aTickByHand() {
        SpringChain x = Check.loaded("chain 3;masses 7;mass 1 3;spring 2 33;damp 50;pluck 0 10;pluck 2 -25;"
                + "strike 1 100;end left -4;impulse 0 2 -9;");
        Check.row("state ahead", x::state, ILLEGAL, 0, 3, 0, -4, 0, 50, 1, 19, 1, 0, 2, 2);
        Check.row("account ahead", x::account, ILLEGAL, 100, 0, 0, 100, 0, 0, 1666, 98 + 50 + 103 + 312);
        Check.row("spring 2 ahead", k -> x.spring(2, k), ILLEGAL, 33, 0, 0, -25, -8);
        Check.due("centre ahead", -105.0 / 17.0, x::centre);
        Check.due("pass", 0, () -> x.pass(1));
        Check.row("state", x::state, ILLEGAL, 1, 3, 0, -4, 0, 50, 0, 22, 1, 1, 0, 1);
        Check.row("account", x::account, ILLEGAL, 97, -14, 25, 91, 5, 0, 1642, 1095);
        Check.row("mass 0", k -> x.mass(0, k), ILLEGAL, 7, 7, -23, -3);
        Check.row("mass 1", k -> x.mass(1, k), ILLEGAL, 3, 32, 97, 32);
        Check.row("mass 2", k -> x.mass(2, k), ILLEGAL, 7, -22, 23, 3);
        Check.row("spring 0", k -> x.spring(0, k), ILLEGAL, 100, 0, 0, 11, 11);
        Check.row("spring 1", k -> x.spring(1, k), ILLEGAL, 100, 0, 0, 25, 25);
        Check.row("spring 2", k -> x.spring(2, k), ILLEGAL, 33, 0, 0, -54, -17);
        Check.row("spring 3", k -> x.spring(3, k), ILLEGAL, 100, 0, 0, 22, 22);
        Check.due("centre", -9.0 / 17.0, x::centre);
    }

    private static void nodesAndPatterns() {
        SpringChain x = Check.loaded("chain 12;pluck 0 -1;pluck 2 1;pluck 3 5;pluck 6 -2;pluck 11 3;");
        Check.due("pattern", 2 + 9 + 27 + 2 * 729 + 177147, () -> x.state(7));
        Check.due("nodes", 3, () -> x.state(8));
        x.pluck(6, 0);
        Check.due("nodes without mass 6", 1, () -> x.state(8));
        x.pluck(0, 0);
        Check.due("nodes of one sign", 0, () -> x.state(8));
    }

    private static void farthestAndResting() {
        SpringChain x = Check.loaded("chain 4;pluck 1 -9;pluck 2 9;pluck 3 8;strike 2 1;");
        Check.due("the smallest index of equals", 1, () -> x.state(11));
        Check.due("resting", 3, () -> x.state(10));
        x.pluck(3, -10);
        Check.due("farthest", 3, () -> x.state(11));
        x.strike(2, -1);
        Check.due("all resting", 4, () -> x.state(10));
    }

    private static void massAndSpring() {
        SpringChain x = Check.loaded("chain 2;strike 0 -19;mass 0 10;end left 30;spring 0 999 limit 7;");
        Check.row("mass 0", k -> x.mass(0, k), ILLEGAL, 10, 0, -19, -1);
        Check.row("spring 0", k -> x.spring(0, k), ILLEGAL, 999, 7, 0, -30, -299);
        Check.row("masses", k -> x.mass(k, 0), INDEX, 10, 10);
        Check.row("springs", k -> x.spring(k, 0), INDEX, 999, 100, 100);
        Check.throwsDue("mass ahead of what", INDEX, () -> x.mass(2, 4));
        Check.throwsDue("spring ahead of what", INDEX, () -> x.spring(3, 5));
        SpringChain y = Check.loaded("chain 2;spring 0 50 limit 7;end left 30;");
        Check.due("it breaks", 1, () -> y.pass(1));
        Check.row("a broken spring", k -> y.spring(0, k), ILLEGAL, 50, 7, 1, -29, 0);
        y.pluck(0, 0);
        y.pluck(1, 3);
        y.stiffen(2, 0);
        Check.due("no energy of a broken spring", 4L, () -> y.account(7));
    }

    private static void noted() {
        SpringChain x = Check.loaded("chain 1;masses 1;pluck 0 100;");
        Check.row("none", k -> x.noted(k, 0), NONE);
        x.pass(4);
        Check.row("patterns", k -> x.noted(k, 0), NONE, 2, 1);
        Check.row("times", k -> x.noted(k, 1), NONE, 2, 2);
        Check.row("what", k -> x.noted(0, k), ILLEGAL, 2, 2);
        Check.throwsDue("k ahead of what", NONE, () -> x.noted(2, 2));
        Check.due("foretelling notes nothing", 2, () -> {
            x.foretold(9, 0, 0);
            x.period(0, 9);
            x.breaksIn(9);
            return x.noted(0, 1);
        });
        Check.due("load", 1, () -> Check.load(x, "chain 1;"));
        Check.row("none again", k -> x.noted(k, 1), NONE);
    }

    private static void atMost32Patterns() {
        SpringChain x = Check.loaded("chain 4;springs 0;");
        for (int pattern = 0; pattern < 34; pattern++) {
            show(x, pattern);
            x.pass(1);
        }
        Check.due("kept", 32, () -> x.state(9));
        Check.due("the last", 31, () -> x.noted(31, 0));
        Check.throwsDue("no further one", NONE, () -> x.noted(32, 0));
        show(x, 31);
        x.pass(3);
        Check.due("a kept one counts on", 4, () -> x.noted(31, 1));
        show(x, 33);
        x.pass(1);
        Check.due("still", 32, () -> x.state(9));
    }

    private static void show(SpringChain x, int pattern) {
        int rest = pattern;
        for (int mass = 0; mass < 4; mass++) {
            int at = rest % 3 == 2 ? -5 : rest % 3 * 5;
            if (x.mass(mass, 1) != at) {
                x.pluck(mass, at);
            }
            rest /= 3;
        }
    }

    private static void waiting() {
        SpringChain x = Check.loaded("chain 3;impulse 5 1 7;impulse 5 0 3;impulse 2 2 1;impulse 5 1 -7;impulse 0 2 2;");
        Check.row("ticks", k -> x.waiting(k, 0), NONE, 0, 2, 5, 5, 5);
        Check.row("masses", k -> x.waiting(k, 1), NONE, 2, 2, 0, 1, 1);
        Check.row("strengths", k -> x.waiting(k, 2), NONE, 2, 1, 3, 7, -7);
        Check.row("what", k -> x.waiting(3, k), ILLEGAL, 5, 1, 7);
        Check.throwsDue("k ahead of what", NONE, () -> x.waiting(5, 3));
        x.pass(2);
        Check.due("those of the time wait", 4, () -> x.state(6));
        x.pass(1);
        Check.row("strengths then", k -> x.waiting(k, 2), NONE, 3, 7, -7);
        Check.due("what was given", 3L, () -> x.account(3));
        x.pass(3);
        Check.row("none", k -> x.waiting(k, 2), NONE);
        Check.due("all were given", 6L, () -> x.account(3));
    }

    private static void pieces() {
        SpringChain x = Check.loaded("chain 4;spring 0 0;spring 4 0;spring 2 1 limit 10;pluck 2 50;");
        Check.due("the ends do not matter", 1, x::pieces);
        x.stiffen(1, 0);
        Check.due("a spring of stiffness 0", 2, x::pieces);
        x.pass(1);
        Check.due("a broken spring", 3, x::pieces);
        x.stiffen(3, 0);
        Check.due("all apart", 4, x::pieces);
        x.mend(2);
        Check.due("mended", 3, x::pieces);
        Check.due("one mass", 1, () -> Check.loaded("chain 1;springs 0;").pieces());
    }

    private static void centre() {
        Check.due("centre", (5 * 10000.0 - 99 * 10000.0) / 104.0,
                () -> Check.loaded("chain 2;mass 0 5;mass 1 99;pluck 0 10000;pluck 1 -10000;").centre());
        Check.due("a third", 10.0 / 30.0, () -> Check.loaded("chain 3;pluck 1 1;").centre());
        Check.due("zero", 0.0, () -> new SpringChain().centre());
    }

    private static void checksum() {
        SpringChain x = Check.loaded("chain 3;masses 7;spring 2 33 limit 44;damp 50;pluck 0 10;pluck 2 -25;strike 1 100;");
        Check.due("ahead of ticks", sumOf(x), x::checksum);
        x.pass(9);
        Check.due("behind ticks", sumOf(x), x::checksum);
        SpringChain y = Check.loaded("chain 12;masses 98;springs 998;pluck 0 9999;pluck 11 -9999;end left -100000;");
        y.pass(50);
        Check.due("wrapping around", sumOf(y), y::checksum);
        Check.due("of a new object", newSum(), () -> new SpringChain().checksum());
    }

    /** A new object has 4 numbers that are not 0: 1 mass, 1 at rest, a weight of 10, two stiffnesses of 100. */
    private static long newSum() {
        int[] numbers = new int[12 + 8 + 4 + 10];
        numbers[1] = 1;
        numbers[10] = 1;
        numbers[20] = 10;
        numbers[24] = 100;
        numbers[29] = 100;
        long sum = 0;
        for (int n : numbers) {
            sum = 31 * sum + n;
        }
        return sum;
    }

    private static long sumOf(SpringChain x) {
        long sum = 0;
        for (int what = 0; what < 12; what++) {
            sum = 31 * sum + x.state(what);
        }
        for (int what = 0; what < 8; what++) {
            sum = 31 * sum + x.account(what);
        }
        for (int k = 0; k < 4 * x.state(1); k++) {
            sum = 31 * sum + x.mass(k / 4, k % 4);
        }
        for (int k = 0; k < 5 * (x.state(1) + 1); k++) {
            sum = 31 * sum + x.spring(k / 5, k % 5);
        }
        for (int k = 0; k < 2 * x.state(9); k++) {
            sum = 31 * sum + x.noted(k / 2, k % 2);
        }
        return sum;
    }
}
