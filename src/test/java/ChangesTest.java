/** Promises 16 to 23: the changing methods, their bounds, and undo. */
public final class ChangesTest {
    private static final Class<? extends RuntimeException> ILLEGAL = IllegalArgumentException.class;
    private static final Class<? extends RuntimeException> INDEX = IndexOutOfBoundsException.class;
    private static final Class<? extends RuntimeException> STATE = IllegalStateException.class;
    private static final int LEAST = Integer.MIN_VALUE;
    private static final int MOST = Integer.MAX_VALUE;

    public static void main(String[] args) {
        pass();
        pullsAheadOfImpulsesAheadOfDamping();
        damping();
        limits();
        breaking();
        pluck();
        strike();
        impulse();
        impulsesFull();
        stiffen();
        mend();
        move();
        undo();
        undoOfEach();
        nothingByExceptions();
        Check.end();
    }

    private static void pass() {
        SpringChain x = new SpringChain();
        for (int ticks : new int[] {0, 51, -1, MOST, LEAST}) {
            Check.throwsDue("pass " + ticks, ILLEGAL, () -> x.pass(ticks));
        }
        Check.due("time", 0, () -> x.state(0));
        Check.due("pass 50", 0, () -> x.pass(50));
        Check.due("pass 1", 0, () -> x.pass(1));
        Check.due("time then", 51, () -> x.state(0));
        SpringChain y = Check.loaded("chain 2;springs 0;spring 0 0 limit 15;spring 1 0 limit 25;strike 0 100;");
        Check.due("how many broke", 2, () -> y.pass(9));
        Check.due("broken", 2, () -> y.state(2));
        Check.due("no one breaks twice", 0, () -> y.pass(9));
        SpringChain z = Check.loaded("chain 2;spring 2 0 limit 9;pluck 1 300;");
        Check.due("the last spring breaks", 1, () -> z.pass(1));
        Check.due("and is broken", 1, () -> z.state(2));
    }

    private static void pullsAheadOfImpulsesAheadOfDamping() {
        SpringChain x = Check.loaded("chain 1;masses 3;springs 10;damp 500;end left -100;impulse 0 0 31;impulse 0 0 -8;");
        // pull of spring 0 is 10: -10 + 31 - 8 = 13, of which 6 is taken; 7 / 3 is 2
        x.pass(1);
        Check.row("mass", k -> x.mass(0, k), ILLEGAL, 3, 2, 7, 2);
        Check.row("account", x::account, ILLEGAL, 7, -10, 0, 23, 6, 0, 49 / 6, 10 * 102 * 102 / 200 + 10 * 4 / 200);
    }

    private static void damping() {
        SpringChain x = Check.loaded("chain 1;springs 0;damp 999;strike 0 100000;");
        x.pass(1);
        Check.due("99900 is taken", 99900L, () -> x.account(4));
        Check.due("100 stays", 100, () -> x.mass(0, 2));
        x.strike(0, -101);
        x.pass(1);
        Check.due("nothing is taken of -1", -1, () -> x.mass(0, 2));
    }

    private static void limits() {
        SpringChain x = Check.loaded("chain 1;masses 99;springs 999;end left 100000;end right 100000;");
        for (int k = 0; k < 45; k++) {
            x.pluck(0, -10000);
            x.pass(1);
        }
        x.pluck(0, -10000);
        Check.due("nothing lost yet", 0L, () -> x.account(5));
        x.pass(1);
        x.undo();
        Check.row("undone", x::account, ILLEGAL, 98901000, 45 * 1098900, 45 * 1098900, 0, 0, 0,
                98901000L * 98901000 / 198, 2 * (999L * 110000 * 110000 / 200));
        x.pass(1);
        // each tick gives 2 * 1098900; the 46th would make it 101098800
        Check.due("momentum", 100000000, () -> x.mass(0, 2));
        Check.due("displacement", 1000000, () -> x.mass(0, 1));
        Check.due("lost", 1098800L, () -> x.account(5));
        Check.due("left", 46 * 1098900L, () -> x.account(1));
        Check.due("right", 46 * 1098900L, () -> x.account(2));
        Check.due("energy", 10000000000000000L / 198, () -> x.account(6));
        Check.due("energy of springs", 2 * (999L * 900000 * 900000 / 200), () -> x.account(7));
        Check.due("struck beyond", 100000000, () -> x.strike(0, 50));
        Check.due("given nothing", 0L, () -> x.account(3));
        Check.due("struck back", 99999970, () -> x.strike(0, -30));
        Check.due("struck to the bound", 100000000, () -> x.strike(0, 100));
        Check.due("given", 0L, () -> x.account(3));
        Check.due("lost by ticks alone", 1098800L, () -> x.account(5));
        SpringChain y = Check.loaded("chain 1;masses 1;springs 0;strike 0 -100000;");
        y.pass(10);
        Check.due("at the lower bound", -1000000, () -> y.mass(0, 1));
        y.pass(1);
        Check.due("not below", -1000000, () -> y.mass(0, 1));
        Check.due("the momentum stays", -100000, () -> y.mass(0, 2));
        Check.due("stretch", 1000000, () -> y.spring(1, 3));
    }

    private static void breaking() {
        SpringChain x = Check.loaded("chain 2;springs 0;spring 1 100 limit 50;pluck 1 51;masses 99;");
        Check.due("whole ahead of a tick", 0, () -> x.state(2));
        Check.due("it pulls in the tick in which it breaks", 1, () -> x.pass(1));
        Check.due("momentum", 51, () -> x.mass(0, 2));
        x.pass(1);
        Check.due("broken, it pulls no more", 51, () -> x.mass(0, 2));
    }

    private static void pluck() {
        SpringChain x = Check.loaded("chain 2;strike 1 33;");
        Check.due("pluck", 0, () -> x.pluck(1, -10000));
        Check.due("pluck again", -10000, () -> x.pluck(1, 10000));
        Check.row("mass 1", k -> x.mass(1, k), ILLEGAL, 10, 10000, 33, 3);
        Check.due("mass 0", 0, () -> x.mass(0, 1));
        for (int d : new int[] {10001, -10001, MOST, LEAST}) {
            Check.throwsDue("pluck to " + d, ILLEGAL, () -> x.pluck(0, d));
            Check.throwsDue("mass ahead of displacement", INDEX, () -> x.pluck(2, d));
        }
        Check.row("masses", k -> x.pluck(k, 5), INDEX, 0, 10000);
    }

    private static void strike() {
        SpringChain x = Check.loaded("chain 2;pluck 1 33;");
        Check.due("strike", -100000, () -> x.strike(1, -100000));
        Check.due("strike again", 0, () -> x.strike(1, 100000));
        Check.due("strike 0", 7, () -> x.strike(0, 7));
        Check.due("given", 7L, () -> x.account(3));
        Check.due("displacement", 33, () -> x.mass(1, 1));
        for (int s : new int[] {100001, -100001, MOST, LEAST}) {
            Check.throwsDue("strike by " + s, ILLEGAL, () -> x.strike(0, s));
            Check.throwsDue("mass ahead of strength", INDEX, () -> x.strike(2, s));
        }
        Check.row("masses", k -> x.strike(k, 1), INDEX, 8, 1);
    }

    private static void impulse() {
        SpringChain x = Check.loaded("chain 2;");
        x.pass(5);
        Check.due("of the time", 1, () -> x.impulse(5, 1, 9999));
        Check.due("of the last tick", 2, () -> x.impulse(9999, 0, -9999));
        Check.due("waits", 9999, () -> x.waiting(0, 2));
        Check.throwsDue("passed", ILLEGAL, () -> x.impulse(4, 1, 5));
        Check.throwsDue("tick -1", ILLEGAL, () -> x.impulse(-1, 1, 5));
        Check.throwsDue("tick 10000", ILLEGAL, () -> x.impulse(10000, 1, 5));
        for (int s : new int[] {0, 10000, -10000, MOST, LEAST}) {
            Check.throwsDue("strength " + s, ILLEGAL, () -> x.impulse(6, 1, s));
        }
        for (int mass : new int[] {-1, 2, MOST, LEAST}) {
            Check.throwsDue("mass ahead of tick and strength", INDEX, () -> x.impulse(4, mass, 0));
        }
        Check.due("nothing given yet", 0L, () -> x.account(3));
        x.pass(1);
        Check.due("given in its tick", 9999L, () -> x.account(3));
        Check.due("momentum", 9999, () -> x.mass(1, 2));
        Check.due("one waits", 1, () -> x.state(6));
    }

    private static void impulsesFull() {
        SpringChain x = Check.loaded("chain 2;");
        for (int k = 1; k <= 16; k++) {
            int told = k;
            Check.due("impulse " + k, k, () -> x.impulse(told % 3, told % 2, told));
        }
        Check.row("ticks", k -> x.waiting(k, 0), java.util.NoSuchElementException.class, 0, 0, 0, 0, 0, 1, 1, 1, 1, 1,
                1, 2, 2, 2, 2, 2);
        Check.row("strengths", k -> x.waiting(k, 2), java.util.NoSuchElementException.class, 6, 12, 3, 9, 15, 4, 10,
                16, 1, 7, 13, 2, 8, 14, 5, 11);
        Check.throwsDue("a 17th", STATE, () -> x.impulse(5, 0, 1));
        Check.throwsDue("a wrong 17th", ILLEGAL, () -> x.impulse(5, 0, 0));
        Check.throwsDue("a 17th of no mass", INDEX, () -> x.impulse(5, 2, 0));
        x.pass(1);
        Check.due("five passed", 12, () -> x.impulse(1, 0, 1));
        SpringChain late = new SpringChain();
        for (int k = 0; k < 200; k++) {
            late.pass(50);
        }
        Check.throwsDue("there is no tick any more", ILLEGAL, () -> late.impulse(10000, 0, 1));
        Check.throwsDue("all ticks passed", ILLEGAL, () -> late.impulse(9999, 0, 1));
    }

    private static void stiffen() {
        SpringChain x = Check.loaded("chain 1;spring 1 44 limit 5;pluck 0 100;");
        Check.due("stiffen", 44, () -> x.stiffen(1, 999));
        Check.due("the pull", -999, () -> x.spring(1, 4));
        Check.due("stiffen to 0", 999, () -> x.stiffen(1, 0));
        Check.row("spring 1", k -> x.spring(1, k), ILLEGAL, 0, 5, 0, -100, 0);
        for (int s : new int[] {1000, -1, MOST, LEAST}) {
            Check.throwsDue("stiffen to " + s, ILLEGAL, () -> x.stiffen(0, s));
            Check.throwsDue("spring ahead of stiffness", INDEX, () -> x.stiffen(2, s));
        }
        x.pass(1);
        Check.due("a broken one", 0, () -> x.stiffen(1, 60));
        Check.row("stays broken", k -> x.spring(1, k), ILLEGAL, 60, 5, 1, -x.mass(0, 1), 0);
        Check.row("springs", k -> x.stiffen(k, 7), INDEX, 100, 60);
    }

    private static void mend() {
        SpringChain x = Check.loaded("chain 1;springs 0;spring 0 0 limit 10;spring 1 0 limit 12;strike 0 150;");
        Check.throwsDue("whole", STATE, () -> x.mend(0));
        Check.due("both break", 2, () -> x.pass(1));
        Check.due("mend", 1, () -> x.mend(1));
        Check.throwsDue("mended already", STATE, () -> x.mend(1));
        Check.due("whole till a tick", 0, () -> x.spring(1, 2));
        Check.due("it breaks again", 1, () -> x.pass(1));
        for (int spring : new int[] {-1, 2, MOST, LEAST}) {
            Check.throwsDue("no such spring", INDEX, () -> x.mend(spring));
        }
    }

    private static void move() {
        SpringChain x = Check.loaded("chain 1;end left 3;");
        Check.due("move left", 3, () -> x.move(false, -100000));
        Check.due("move right", 0, () -> x.move(true, 100000));
        Check.due("move right again", 100000, () -> x.move(true, 50));
        Check.due("left", -100000, () -> x.state(3));
        Check.due("right", 50, () -> x.state(4));
        Check.due("stretch", 100000, () -> x.spring(0, 3));
        for (int d : new int[] {100001, -100001, MOST, LEAST}) {
            Check.throwsDue("move to " + d, ILLEGAL, () -> x.move(true, d));
            Check.throwsDue("move left to " + d, ILLEGAL, () -> x.move(false, d));
        }
    }

    private static void undo() {
        SpringChain x = new SpringChain();
        for (int k = 1; k <= 10; k++) {
            x.pluck(0, k);
        }
        for (int k = 7; k >= 0; k--) {
            Check.due("undo", k, x::undo);
        }
        Check.due("final ones stay", 2, () -> x.mass(0, 1));
        Check.due("none to undo", -1, x::undo);
        Check.due("nothing changed", 2, () -> x.mass(0, 1));
        for (int k = 3; k <= 7; k++) {
            x.pluck(0, k);
        }
        x.undo();
        x.undo();
        Check.due("two undone", 5, () -> x.mass(0, 1));
        for (int k = 1; k <= 5; k++) {
            x.pluck(0, 10 * k);
        }
        Check.due("3 and 5 changes", 7, x::undo);
        x.pluck(0, 60);
        x.pluck(0, 70);
        for (int k = 7; k >= 0; k--) {
            Check.due("undo to the end", k, x::undo);
        }
        Check.due("the first of the three is final", 3, () -> x.mass(0, 1));

        SpringChain same = new SpringChain();
        same.pluck(0, 0);
        same.move(true, 0);
        Check.due("changes that leave all count", 1, same::undo);
        same.append(0, 0, 0, 0, 0);
        same.undo();
        Check.due("the buffer stays", 40, () -> same.append(0, 0, 0, 0, 0));
    }

    private static void undoOfEach() {
        SpringChain x = Check.loaded("chain 2;spring 0 5 limit 9;pluck 0 30;damp 4;impulse 1 1 70;end left 8;");
        x.pass(1);
        undone(x, "load", () -> Check.load(x, "chain 5;end left 4;"));
        undone(x, "load and pass", () -> {
            Check.load(x, "chain 3;pluck 1 -5;pluck 2 7;");
            x.pass(9);
            return x.undo();
        });
        undone(x, "pass", () -> x.pass(9));
        undone(x, "pluck", () -> x.pluck(1, 9));
        undone(x, "strike", () -> x.strike(1, 9));
        undone(x, "impulse", () -> x.impulse(9, 1, 9));
        undone(x, "stiffen", () -> x.stiffen(1, 9));
        undone(x, "mend", () -> x.mend(0));
        undone(x, "move", () -> x.move(false, 9));
        undone(x, "move", () -> x.move(true, 9));
    }

    private static void undone(SpringChain x, String name, Check.Call call) {
        long before = x.checksum();
        int strength = x.waiting(0, 2);
        call.run();
        Check.due(name + " changes", true, () -> x.checksum() != before);
        x.undo();
        Check.due(name + " is undone", before, x::checksum);
        Check.due(name + " leaves the impulse", strength, () -> x.waiting(0, 2));
    }

    private static void nothingByExceptions() {
        SpringChain x = Check.loaded("chain 2;pluck 1 5;impulse 0 0 1;");
        x.undo();
        long before = x.checksum();
        Check.Call[] calls = {() -> x.pass(0), () -> x.pluck(1, 0), () -> x.pluck(0, 10001), () -> x.strike(1, 0),
            () -> x.strike(0, 100001), () -> x.impulse(0, 1, 1), () -> x.impulse(0, 0, 0), () -> x.stiffen(2, 0),
            () -> x.stiffen(0, 1000), () -> x.mend(0), () -> x.mend(2), () -> x.move(true, 100001), () -> x.load(1)};
        for (Check.Call call : calls) {
            Check.due("throws", true, () -> Check.outcome(call).startsWith("throws."));
        }
        Check.due("nothing changed", before, x::checksum);
        Check.due("no change to undo", -1, x::undo);
    }
}
