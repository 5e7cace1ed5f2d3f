/** Promises 11 to 13: a test of its own for each sentence that names a boundary. */
public final class BoundsOfForetellingTest {
    private static final Class<? extends RuntimeException> ILLEGAL = IllegalArgumentException.class;
    private static final Class<? extends RuntimeException> INDEX = IndexOutOfBoundsException.class;
    private static final String MASS_LINE = "Throws `IndexOutOfBoundsException` if there is no such mass";
    private static final String FIRST_LINE = "If several exceptions apply to a call, the one that is listed first with"
            + " the method is thrown.";
    private static final String RISES = "a mass rises in a tick if its displacement was 0 or less ahead of it, and is"
            + " greater than 0 behind it.";
    private static final String LIVELY = "chain 3;springs 60;spring 1 60 limit 90;spring 2 9 limit 200;pluck 1 80;damp 3;"
            + "strike 0 -300;impulse 4 2 900;impulse 199 0 -7000;end right 30;";

    public static void main(String[] args) {
        foretold();
        period();
        breaksIn();
        Check.end();
    }

    private static void foretold() {
        Check.holds(11, "- `ticks`: 1 to 200", BoundsOfForetellingTest::leastAndMostTicks);
        Check.holds(11, "Throws `IllegalArgumentException` if ticks or what is out of range",
                BoundsOfForetellingTest::ticksOutOfRange);
        Check.holds(11, "if ticks or what is out of range", BoundsOfForetellingTest::whatOutOfRange);
        Check.holds(11, MASS_LINE, BoundsOfForetellingTest::noSuchMass);
        Check.holds(11, FIRST_LINE, BoundsOfForetellingTest::massAheadOfTheRest);
        Check.holds(11, "Foretells what comes if only ticks pass.", BoundsOfForetellingTest::asTicksPass);
        Check.holds(11, "Foretells what comes if only ticks pass.", BoundsOfForetellingTest::foretellingChangesNothing);
        Check.holds(11, "2 the greatest displacement without its sign that it has behind any of these ticks,",
                BoundsOfForetellingTest::greatestBehindTicks);
        Check.holds(11, "3 broken springs then,", BoundsOfForetellingTest::noneAndAllBroken);
        Check.holds(11, "4 the nodes then", BoundsOfForetellingTest::nodesThen);
        Check.holds(11, "a displacement (-1000000 to 1000000,", BoundsOfForetellingTest::atTheBound);
    }

    private static void period() {
        Check.holds(12, "- `limit`: 1 to 300", BoundsOfForetellingTest::leastAndMostLimit);
        Check.holds(12, "Throws `IllegalArgumentException` if limit is out of range",
                BoundsOfForetellingTest::limitOfPeriod);
        Check.holds(12, MASS_LINE, BoundsOfForetellingTest::noMassOfPeriod);
        Check.holds(12, FIRST_LINE, BoundsOfForetellingTest::massAheadOfLimit);
        Check.holds(12, RISES, BoundsOfForetellingTest::rises);
        Check.holds(12, "Returns the number of ticks from the first tick in which it rises to the next one in which it"
                + " rises,", BoundsOfForetellingTest::firstToNext);
        Check.holds(12, "-1 if it does not rise twice in limit ticks.", BoundsOfForetellingTest::notTwice);
        Check.holds(12, "if only ticks pass;", BoundsOfForetellingTest::periodFromNowOn);
        Check.holds(12, "if only ticks pass;", BoundsOfForetellingTest::periodChangesNothing);
    }

    private static void breaksIn() {
        Check.holds(13, "- `limit`: 1 to 200", BoundsOfForetellingTest::leastAndMostBreak);
        Check.holds(13, "Throws `IllegalArgumentException` if limit is out of range",
                BoundsOfForetellingTest::limitOfBreaksIn);
        Check.holds(13, "Returns in how many ticks a spring breaks,", BoundsOfForetellingTest::firstOfSeveral);
        Check.holds(13, "-1 if none breaks in limit ticks.", BoundsOfForetellingTest::noneBreaks);
        Check.holds(13, "if only ticks pass;", BoundsOfForetellingTest::breaksInFromNowOn);
        Check.holds(13, "if only ticks pass;", BoundsOfForetellingTest::breaksInChangesNothing);
    }

    private static void leastAndMostTicks() {
        SpringChain x = Check.loaded("chain 1;masses 1;springs 0;strike 0 1;impulse 199 0 1000;impulse 200 0 5;");
        Check.due("1", 1, () -> x.foretold(1, 0, 0));
        Check.due("199", 199, () -> x.foretold(199, 0, 0));
        Check.due("200", 199 + 1001, () -> x.foretold(200, 0, 0));
    }

    private static void ticksOutOfRange() {
        for (int what = 0; what <= 4; what++) {
            int told = what;
            Check.range(LIVELY, "ticks for " + what, 1, 200, ILLEGAL, (x, n) -> x.foretold(n, 2, told));
        }
    }

    private static void whatOutOfRange() {
        Check.range(LIVELY, "what in 1", 0, 4, ILLEGAL, (x, n) -> x.foretold(1, 2, n));
        Check.range(LIVELY, "what in 200", 0, 4, ILLEGAL, (x, n) -> x.foretold(200, 0, n));
    }

    private static void noSuchMass() {
        Check.range("chain 1;", "mass", 0, 0, INDEX, (x, n) -> x.foretold(1, n, 0));
        Check.range("chain 12;", "mass", 0, 11, INDEX, (x, n) -> x.foretold(200, n, 4));
    }

    private static void massAheadOfTheRest() {
        SpringChain x = Check.loaded("chain 2;");
        for (int mass : new int[] {-1, 2, Integer.MAX_VALUE, Integer.MIN_VALUE}) {
            Check.throwsDue("no ticks, mass " + mass, INDEX, () -> x.foretold(0, mass, 0));
            Check.throwsDue("201 ticks, mass " + mass, INDEX, () -> x.foretold(201, mass, 0));
            Check.throwsDue("what -1, mass " + mass, INDEX, () -> x.foretold(1, mass, -1));
            Check.throwsDue("what 5, mass " + mass, INDEX, () -> x.foretold(1, mass, 5));
            Check.throwsDue("nothing right, mass " + mass, INDEX, () -> x.foretold(-1, mass, 5));
        }
    }

    private static void asTicksPass() {
        SpringChain x = Check.loaded(LIVELY);
        SpringChain y = Check.loaded(LIVELY);
        int greatest = 0;
        for (int t = 1; t <= 200; t++) {
            y.pass(1);
            int far = y.mass(0, 1);
            greatest = Math.max(greatest, far < 0 ? -far : far);
            if (t % 20 == 0 || t < 5) {
                int ticks = t;
                int most = greatest;
                Check.row("in " + t, k -> x.foretold(ticks, 0, k), ILLEGAL, far, y.mass(0, 2), most, y.state(2),
                        y.state(8));
            }
        }
        Check.due("springs broke", 2, () -> y.state(2));
        Check.due("all impulses came", 0, () -> y.state(6));
    }

    private static void foretellingChangesNothing() {
        SpringChain x = Check.loaded(LIVELY);
        String before = Check.all(x);
        for (int what = 0; what <= 4; what++) {
            x.foretold(200, 2, what);
            x.foretold(1, 0, what);
        }
        Check.due("all", before, () -> Check.all(x));
        Check.due("no change", 0, x::undo);
    }

    private static void greatestBehindTicks() {
        SpringChain x = Check.loaded("chain 2;masses 1;springs 0;pluck 0 100;strike 0 -30;pluck 1 -5;strike 1 -1;");
        Check.due("not ahead of the first tick", 70, () -> x.foretold(1, 0, 2));
        Check.due("behind the first of five", 70, () -> x.foretold(5, 0, 2));
        Check.due("-80 behind the last of six", 80, () -> x.foretold(6, 0, 2));
        Check.due("without its sign", 6, () -> x.foretold(1, 1, 2));
        Check.due("at rest", 0, () -> new SpringChain().foretold(200, 0, 2));
    }

    private static void noneAndAllBroken() {
        SpringChain x = Check.loaded("chain 2;springs 0;spring 0 0limit 5;spring 1 0limit 5;spring 2 0limit 5;"
                + "impulse 1 0 100;impulse 1 1 -100;");
        Check.due("none in 1", 0, () -> x.foretold(1, 0, 3));
        Check.due("all in 2", 3, () -> x.foretold(2, 0, 3));
        Check.due("all in 200", 3, () -> x.foretold(200, 1, 3));
        x.pass(2);
        Check.due("those that are broken already count", 3, () -> x.foretold(1, 0, 3));
    }

    private static void nodesThen() {
        SpringChain x = Check.loaded("chain 3;masses 1;springs 0;impulse 1 0 5;impulse 1 1 -5;impulse 2 2 5;");
        Check.due("none in 1", 0, () -> x.foretold(1, 0, 4));
        Check.due("1 in 2", 1, () -> x.foretold(2, 0, 4));
        Check.due("2 in 3", 2, () -> x.foretold(3, 2, 4));
    }

    private static void atTheBound() {
        for (int sign : new int[] {1, -1}) {
            SpringChain x = Check.loaded("chain 1;masses 1;springs 0;strike 0 " + sign * 100000 + ";");
            Check.due("at the bound", sign * 1000000, () -> x.foretold(10, 0, 0));
            Check.due("not beyond it", sign * 1000000, () -> x.foretold(200, 0, 0));
            Check.due("without its sign", 1000000, () -> x.foretold(200, 0, 2));
            Check.due("the momentum stays", sign * 100000, () -> x.foretold(200, 0, 1));
        }
    }

    /** A mass that is above 0 only behind the given ticks, counted from 1. */
    private static SpringChain risingIn(int... ticks) {
        StringBuilder text = new StringBuilder("chain 2;masses 1;springs 0;");
        for (int tick : ticks) {
            text.append("impulse ").append(tick - 1).append(" 1 1;impulse ").append(tick).append(" 1 -2;impulse ")
                    .append(tick + 1).append(" 1 1;");
        }
        return Check.loaded(text.toString());
    }

    private static void leastAndMostLimit() {
        SpringChain x = risingIn(1, 300);
        Check.due("300", 299, () -> x.period(1, 300));
        Check.due("299", -1, () -> x.period(1, 299));
        Check.due("1", -1, () -> x.period(1, 1));
        SpringChain late = risingIn(1, 301);
        Check.due("one tick later is too late", -1, () -> late.period(1, 300));
    }

    private static void limitOfPeriod() {
        Check.range(LIVELY, "limit", 1, 300, ILLEGAL, (x, n) -> x.period(2, n));
    }

    private static void noMassOfPeriod() {
        Check.range("chain 1;", "mass", 0, 0, INDEX, (x, n) -> x.period(n, 1));
        Check.range("chain 12;", "mass", 0, 11, INDEX, (x, n) -> x.period(n, 300));
    }

    private static void massAheadOfLimit() {
        SpringChain x = Check.loaded("chain 2;");
        for (int mass : new int[] {-1, 2, Integer.MAX_VALUE, Integer.MIN_VALUE}) {
            Check.throwsDue("limit 0, mass " + mass, INDEX, () -> x.period(mass, 0));
            Check.throwsDue("limit 301, mass " + mass, INDEX, () -> x.period(mass, 301));
        }
    }

    private static void rises() {
        Check.due("from 0 to 1", 2, () -> risingIn(1, 3).period(1, 3));
        // -1, 0, 1, 2, 0, 1: it rises in the ticks 3 and 6
        SpringChain x = Check.loaded("chain 1;masses 1;springs 0;pluck 0 -2;strike 0 1;impulse 4 0 -3;impulse 5 0 3;");
        Check.due("not from -1 to 0, and not from 1 to 2", 3, () -> x.period(0, 6));
        Check.due("five ticks are too few", -1, () -> x.period(0, 5));
        // 1, 1, 0, 0, 1: it is above 0 ahead of the first tick
        SpringChain above = Check.loaded("chain 1;masses 1;springs 0;pluck 0 1;impulse 2 0 -1;impulse 3 0 1;"
                + "impulse 4 0 1;impulse 5 0 -2;impulse 6 0 2;");
        Check.due("not from 1 to 1", 2, () -> above.period(0, 7));
        Check.due("six ticks are too few", -1, () -> above.period(0, 6));
        SpringChain jump = Check.loaded("chain 1;masses 1;springs 0;pluck 0 -10000;impulse 0 0 9999;impulse 1 0 -9997;"
                + "impulse 2 0 -9000;impulse 3 0 9000;impulse 4 0 9000;");
        Check.due("from below to above 0", 3, () -> jump.period(0, 5));
    }

    private static void firstToNext() {
        Check.due("not to a third", 10, () -> risingIn(5, 15, 17).period(1, 300));
        Check.due("not from the time on", 100, () -> risingIn(100, 200).period(1, 300));
        Check.due("the smallest period", 2, () -> risingIn(298, 300).period(1, 300));
        Check.due("the greatest period", 299, () -> risingIn(1, 300).period(1, 300));
        Check.due("of this mass, not of another", -1, () -> risingIn(1, 3).period(0, 300));
    }

    private static void notTwice() {
        Check.due("never", -1, () -> new SpringChain().period(0, 300));
        Check.due("once", -1, () -> risingIn(7).period(1, 300));
        Check.due("always above 0", -1, () -> Check.loaded("chain 1;springs 0;pluck 0 5;").period(0, 300));
        Check.due("always below 0", -1, () -> Check.loaded("chain 1;springs 0;pluck 0 -5;").period(0, 300));
        Check.due("the second in tick 9 of 9", 4, () -> risingIn(5, 9).period(1, 9));
        Check.due("the second in tick 9 of 8", -1, () -> risingIn(5, 9).period(1, 8));
    }

    private static void periodFromNowOn() {
        SpringChain x = risingIn(3, 7, 19);
        Check.due("from tick 0 on", 4, () -> x.period(1, 300));
        x.pass(3);
        Check.due("behind the first rise", 12, () -> x.period(1, 300));
        Check.due("and the same once more", 12, () -> x.period(1, 16));
        Check.due("one tick less", -1, () -> x.period(1, 15));
        x.pluck(1, -1);
        Check.due("plucked to -1 it never rises above 0", -1, () -> x.period(1, 300));
        x.undo();
        x.foretold(200, 1, 0);
        Check.due("undone", 12, () -> x.period(1, 300));
    }

    private static void periodChangesNothing() {
        SpringChain x = Check.loaded(LIVELY);
        String before = Check.all(x);
        x.period(0, 300);
        x.period(2, 1);
        Check.due("all", before, () -> Check.all(x));
        Check.due("no change", 0, x::undo);
    }

    /** A chain of which one spring breaks in the given tick, counted from 1. */
    private static SpringChain breakingIn(int tick) {
        return Check.loaded("chain 12;masses 1;springs 0;spring 12 0limit 5;impulse " + (tick - 1) + " 11 6;impulse "
                + tick + " 11 -6;");
    }

    private static void leastAndMostBreak() {
        Check.due("in 1 of 1", 1, () -> breakingIn(1).breaksIn(1));
        Check.due("in 1 of 200", 1, () -> breakingIn(1).breaksIn(200));
        Check.due("in 200 of 200", 200, () -> breakingIn(200).breaksIn(200));
        Check.due("in 201 of 200", -1, () -> breakingIn(201).breaksIn(200));
    }

    private static void limitOfBreaksIn() {
        Check.range(LIVELY, "limit", 1, 200, ILLEGAL, SpringChain::breaksIn);
    }

    private static void firstOfSeveral() {
        SpringChain x = Check.loaded("chain 2;masses 1;springs 0;spring 0 0limit 30;spring 1 0limit 20;spring 2 0limit 9;"
                + "strike 0 -10;impulse 8 1 10;");
        Check.due("the middle one in 3", 3, () -> x.breaksIn(200));
        Check.due("it breaks", 1, () -> x.pass(3));
        Check.due("the next one in 1", 1, () -> x.breaksIn(200));
        Check.due("it breaks", 1, () -> x.pass(1));
        Check.due("the last one in 5", 5, () -> x.breaksIn(200));
        Check.due("it breaks", 1, () -> x.pass(5));
        Check.due("all are broken", -1, () -> x.breaksIn(200));
        x.mend(2);
        Check.due("a mended one in 1", 1, () -> x.breaksIn(200));
    }

    private static void noneBreaks() {
        Check.due("no limits", -1, () -> Check.loaded("chain 1;masses 1;springs 0;strike 0 100000;").breaksIn(200));
        Check.due("at its limit for ever", -1,
                () -> Check.loaded("chain 1;springs 0;spring 0 0limit 5;pluck 0 5;").breaksIn(200));
        Check.due("in 7 of 6", -1, () -> breakingIn(7).breaksIn(6));
        Check.due("in 7 of 7", 7, () -> breakingIn(7).breaksIn(7));
    }

    private static void breaksInFromNowOn() {
        SpringChain x = breakingIn(50);
        Check.due("from tick 0 on", 50, () -> x.breaksIn(50));
        x.pass(20);
        Check.due("behind 20 ticks", 30, () -> x.breaksIn(30));
        Check.due("one tick less", -1, () -> x.breaksIn(29));
        x.pluck(11, 6);
        Check.due("plucked", 1, () -> x.breaksIn(200));
        x.undo();
        x.period(11, 300);
        Check.due("undone", 30, () -> x.breaksIn(200));
    }

    private static void breaksInChangesNothing() {
        SpringChain x = Check.loaded(LIVELY);
        String before = Check.all(x);
        Check.due("one breaks", true, () -> x.breaksIn(200) > 0);
        Check.due("all", before, () -> Check.all(x));
        Check.due("none broke", 0, () -> x.state(2));
        Check.due("no change", 0, x::undo);
    }
}
