import java.util.LinkedHashMap;
import java.util.Map;
import java.util.NoSuchElementException;

/** Promises 17 to 23 and changes: a test of its own for each sentence that names a boundary. */
public final class BoundsOfChangesTest {
    private static final Class<? extends RuntimeException> ILLEGAL = IllegalArgumentException.class;
    private static final Class<? extends RuntimeException> INDEX = IndexOutOfBoundsException.class;
    private static final Class<? extends RuntimeException> STATE = IllegalStateException.class;
    private static final Class<? extends RuntimeException> NONE = NoSuchElementException.class;
    private static final int LEAST = Integer.MIN_VALUE;
    private static final int MOST = Integer.MAX_VALUE;
    private static final String MASS_LINE = "Throws `IndexOutOfBoundsException` if there is no such mass";
    private static final String SPRING_LINE = "Throws `IndexOutOfBoundsException` if there is no such spring";
    private static final String INDEX_LINE = "In the methods, IndexOutOfBoundsException is thrown if a parameter named"
            + " mass is not the index of a mass, or one named spring not that of a spring.";
    private static final String FIRST_LINE = "If several exceptions apply to a call, the one that is listed first with"
            + " the method is thrown.";
    private static final String CHANGES = "The changing methods are load (when it succeeds), pass, pluck, strike, impulse,"
            + " stiffen, mend and move;";
    private static final String FINAL = "a change is final as soon as 8 later ones, none of them undone, have been made.";
    /** Springs 0 and 2 are broken, and all else is unlike what it is at first. */
    private static final String BROKEN = "chain 2;masses 99;springs 7;spring 0 5 limit 9;spring 2 6 limit 9;damp 4;"
            + "pluck 0 30;pluck 1 28;strike 1 500;impulse 1 1 70;impulse 1 0 -60;end left -8;";

    public static void main(String[] args) {
        pluckAndStrike();
        impulse();
        springsAndEnds();
        undo();
        exceptions();
        Check.end();
    }

    private static void pluckAndStrike() {
        Check.holds(17, "- `displacement`: -10000 to 10000", BoundsOfChangesTest::pluckRange);
        Check.holds(17, "Throws `IllegalArgumentException` if displacement is out of range",
                BoundsOfChangesTest::pluckOutOfRange);
        Check.holds(17, MASS_LINE, BoundsOfChangesTest::pluckOfNoMass);
        Check.holds(17, FIRST_LINE, BoundsOfChangesTest::pluckMassFirst);
        Check.holds(17, "it has a displacement, and its momentum stays.", BoundsOfChangesTest::pluckLeavesMomentum);
        Check.holds(17, "Returns its displacement before.", BoundsOfChangesTest::pluckFromTheBound);
        Check.holds(18, "- `strength`: -100000 to 100000", BoundsOfChangesTest::strikeRange);
        Check.holds(18, "Throws `IllegalArgumentException` if strength is out of range",
                BoundsOfChangesTest::strikeOutOfRange);
        Check.holds(18, MASS_LINE, BoundsOfChangesTest::strikeOfNoMass);
        Check.holds(18, FIRST_LINE, BoundsOfChangesTest::strikeMassFirst);
        Check.holds(18, "a strength is added to its momentum, which is limited to its range",
                BoundsOfChangesTest::strikeToTheBound);
        Check.holds(18, "(its momentum behind that less that ahead of it counts as given by strikes).",
                BoundsOfChangesTest::strikeGivesWhatItChanged);
        Check.holds(18, "Returns its momentum then.", BoundsOfChangesTest::strikeReturns);
    }

    private static void impulse() {
        Check.holds(19, "- `tick`: its tick, the time to 9999", BoundsOfChangesTest::impulseTicks);
        Check.holds(19, "- `strength`: -9999 to 9999, not 0", BoundsOfChangesTest::impulseStrengths);
        Check.holds(19, "Throws `IllegalArgumentException` if tick or strength is out of range",
                BoundsOfChangesTest::impulseOutOfRange);
        Check.holds(19, MASS_LINE, BoundsOfChangesTest::impulseOfNoMass);
        Check.holds(19, "Throws `IllegalStateException` if 16 impulses wait", BoundsOfChangesTest::impulseWhenFull);
        Check.holds(19, FIRST_LINE, BoundsOfChangesTest::impulseOrder);
        Check.holds(19, "Returns the impulses that wait then.", BoundsOfChangesTest::impulseReturns);
    }

    private static void springsAndEnds() {
        Check.holds(20, "- `stiffness`: 0 to 999", BoundsOfChangesTest::stiffenRange);
        Check.holds(20, "Throws `IllegalArgumentException` if stiffness is out of range",
                BoundsOfChangesTest::stiffenOutOfRange);
        Check.holds(20, SPRING_LINE, BoundsOfChangesTest::stiffenOfNoSpring);
        Check.holds(20, FIRST_LINE, BoundsOfChangesTest::stiffenSpringFirst);
        Check.holds(20, "Returns the previous one.", BoundsOfChangesTest::stiffenReturns);
        Check.holds(20, "Sets the stiffness of a spring.", BoundsOfChangesTest::stiffenOfBroken);
        Check.holds(21, SPRING_LINE, BoundsOfChangesTest::mendOfNoSpring);
        Check.holds(21, "Throws `IllegalStateException` if it is whole", BoundsOfChangesTest::mendOfWhole);
        Check.holds(21, FIRST_LINE, BoundsOfChangesTest::mendSpringFirst);
        Check.holds(21, "Returns how many springs are broken then.", BoundsOfChangesTest::mendReturns);
        Check.holds(22, "- `displacement`: -100000 to 100000", BoundsOfChangesTest::moveRange);
        Check.holds(22, "Throws `IllegalArgumentException` if displacement is out of range",
                BoundsOfChangesTest::moveOutOfRange);
        Check.holds(22, "- `isRight`: whether the right end is moved, not the left one", BoundsOfChangesTest::movesOne);
        Check.holds(22, "Returns its displacement before.", BoundsOfChangesTest::moveReturns);
    }

    private static void undo() {
        Check.holds(23, "-1 if there was none to undo, and nothing changes then.", BoundsOfChangesTest::noneToUndo);
        Check.holds(23, "Returns the number of changes that can still be undone;", BoundsOfChangesTest::undoReturns);
        Check.holds(23, "Undoes the latest change that is not final and has not been undone.",
                BoundsOfChangesTest::undoesTheLatest);
        Check.holds(23, "The latest 8 changes can be undone, the latest one first;", BoundsOfChangesTest::latestEight);
        Check.holds(23, FINAL, BoundsOfChangesTest::finalBehindEight);
        Check.holds(23, FINAL, BoundsOfChangesTest::undoneOnesDoNotCount);
        Check.holds(23, "The input buffer and the error offset are not affected.",
                BoundsOfChangesTest::bufferAndOffsetStay);
        Check.holds(23, CHANGES, BoundsOfChangesTest::eachChange);
        Check.holds(23, CHANGES, BoundsOfChangesTest::changesBehindALoad);
        Check.holds(23, "each such call that does not throw an exception is a change,", BoundsOfChangesTest::noChange);
        Check.holds(23, "also if all data stay as they were.", BoundsOfChangesTest::changesThatLeaveAll);
    }

    private static void exceptions() {
        Check.holds(23, "A method that throws an exception changes nothing.", BoundsOfChangesTest::refusedCalls);
        Check.holds(17, INDEX_LINE, BoundsOfChangesTest::everyMassAndSpring);
    }

    private static void pluckOutOfRange() {
        Check.range("chain 2;pluck 1 8;", "pluck to", -10000, 10000, ILLEGAL, (x, n) -> x.pluck(1, n));
    }

    private static void pluckRange() {
        SpringChain x = new SpringChain();
        for (int n : new int[] {-10000, 10000, 0}) {
            x.pluck(0, n);
            Check.due("plucked to " + n, n, () -> x.mass(0, 1));
        }
    }

    private static void pluckOfNoMass() {
        Check.range("chain 1;", "pluck", 0, 0, INDEX, (x, n) -> x.pluck(n, 5));
        Check.range("chain 12;", "pluck", 0, 11, INDEX, (x, n) -> x.pluck(n, 5));
    }

    private static void pluckMassFirst() {
        SpringChain x = Check.loaded("chain 2;");
        for (int mass : new int[] {-1, 2, LEAST, MOST}) {
            for (int n : new int[] {-10001, 10001, LEAST, MOST}) {
                Check.throwsDue("pluck(" + mass + ", " + n + ")", INDEX, () -> x.pluck(mass, n));
            }
        }
    }

    private static void pluckLeavesMomentum() {
        SpringChain x = Check.loaded("chain 2;strike 1 -100000;");
        long given = x.account(3);
        x.pluck(1, 10000);
        Check.row("mass 1", k -> x.mass(1, k), ILLEGAL, 10, 10000, -100000, -10000);
        Check.row("mass 0", k -> x.mass(0, k), ILLEGAL, 10, 0, 0, 0);
        Check.due("nothing is given by it", given, () -> x.account(3));
        Check.due("nothing is noted by it", 0, () -> x.state(9));
    }

    private static void pluckFromTheBound() {
        for (int sign : new int[] {1, -1}) {
            SpringChain x = Check.loaded("chain 1;masses 1;springs 0;strike 0 " + sign * 100000 + ";");
            x.pass(10);
            Check.due("from the bound", sign * 1000000, () -> x.pluck(0, -sign * 10000));
            Check.due("from there", -sign * 10000, () -> x.pluck(0, 0));
            Check.due("from 0", 0, () -> x.pluck(0, 0));
        }
    }

    private static void strikeOutOfRange() {
        Check.range("chain 2;strike 1 8;", "strike by", -100000, 100000, ILLEGAL, (x, n) -> x.strike(1, n));
    }

    private static void strikeRange() {
        for (int n : new int[] {-100000, 100000, 0}) {
            SpringChain x = Check.loaded("chain 2;");
            x.strike(1, n);
            Check.due("struck by " + n, n, () -> x.mass(1, 2));
        }
    }

    private static void strikeOfNoMass() {
        Check.range("chain 1;", "strike", 0, 0, INDEX, (x, n) -> x.strike(n, 5));
        Check.range("chain 12;", "strike", 0, 11, INDEX, (x, n) -> x.strike(n, 5));
    }

    private static void strikeMassFirst() {
        SpringChain x = Check.loaded("chain 2;");
        for (int mass : new int[] {-1, 2, LEAST, MOST}) {
            for (int n : new int[] {-100001, 100001, LEAST, MOST}) {
                Check.throwsDue("strike(" + mass + ", " + n + ")", INDEX, () -> x.strike(mass, n));
            }
        }
    }

    /** A mass with the momentum 99901000 of this sign. */
    private static SpringChain pumped(int sign) {
        SpringChain x = Check.loaded("chain 1;masses 99;springs 999;end left " + sign * 100000 + ";end right "
                + sign * 100000 + ";");
        for (int k = 0; k < 45; k++) {
            x.pluck(0, -sign * 10000);
            x.pass(1);
        }
        for (int k = 0; k < 10; k++) {
            x.strike(0, sign * 100000);
        }
        Check.due("momentum", sign * 99901000, () -> x.mass(0, 2));
        return x;
    }

    private static void strikeToTheBound() {
        for (int sign : new int[] {1, -1}) {
            SpringChain x = pumped(sign);
            Check.due("to one below the bound", sign * 99999999, () -> x.strike(0, sign * 98999));
            Check.due("to the bound", sign * 100000000, () -> x.strike(0, sign));
            Check.due("beyond the bound", sign * 100000000, () -> x.strike(0, sign));
            Check.due("far beyond it", sign * 100000000, () -> x.strike(0, sign * 100000));
            Check.due("momentum", sign * 100000000, () -> x.mass(0, 2));
            Check.due("back from it", sign * 99900000, () -> x.strike(0, -sign * 100000));
        }
    }

    private static void strikeGivesWhatItChanged() {
        for (int sign : new int[] {1, -1}) {
            SpringChain x = pumped(sign);
            Check.due("up to here", sign * 1000000, () -> x.account(3));
            x.strike(0, sign * 100000);
            Check.due("what was limited is not given", sign * 1099000, () -> x.account(3));
            x.strike(0, sign * 100000);
            Check.due("nothing", sign * 1099000, () -> x.account(3));
            x.strike(0, 0);
            Check.due("nothing by 0", sign * 1099000, () -> x.account(3));
            x.strike(0, -sign * 5);
            Check.due("taken back", sign * 1098995, () -> x.account(3));
            Check.due("no strike loses", 0, () -> x.account(5));
        }
    }

    private static void strikeReturns() {
        SpringChain x = Check.loaded("chain 2;strike 1 7;");
        Check.due("the momentum of the mass", 100007, () -> x.strike(1, 100000));
        Check.due("and then", 7, () -> x.strike(1, -100000));
        Check.due("by 0", 7, () -> x.strike(1, 0));
        Check.due("of another", -100000, () -> x.strike(0, -100000));
    }

    private static void impulseTicks() {
        Check.range("chain 2;", "impulse of tick", 0, 9999, ILLEGAL, (x, n) -> x.impulse(n, 1, 5));
        SpringChain x = Check.loaded("chain 2;");
        x.pass(37);
        Check.refused(x, "a tick that passed", ILLEGAL, () -> x.impulse(36, 1, 5));
        Check.refused(x, "tick 0", ILLEGAL, () -> x.impulse(0, 1, 5));
        Check.due("the time", 1, () -> x.impulse(37, 1, 5));
        Check.due("the last tick", 2, () -> x.impulse(9999, 1, 5));
        Check.row("ticks", k -> x.waiting(k, 0), NONE, 37, 9999);
    }

    private static void impulseStrengths() {
        Check.range("chain 2;", "impulse of strength", -9999, 9999, ILLEGAL, (x, n) -> x.impulse(3, 1, n));
        SpringChain x = Check.loaded("chain 2;");
        Check.refused(x, "strength 0", ILLEGAL, () -> x.impulse(3, 1, 0));
        for (int n : new int[] {-9999, -1, 1, 9999}) {
            Check.due("strength " + n, true, () -> x.impulse(3, 1, n) > 0);
        }
        Check.row("strengths", k -> x.waiting(k, 2), NONE, -9999, -1, 1, 9999);
    }

    private static void impulseOutOfRange() {
        SpringChain x = Check.loaded("chain 2;");
        x.pass(1);
        for (int tick : new int[] {-1, 0, 10000, LEAST, MOST}) {
            Check.refused(x, "tick " + tick, ILLEGAL, () -> x.impulse(tick, 1, 5));
            Check.refused(x, "tick " + tick + " and strength 0", ILLEGAL, () -> x.impulse(tick, 1, 0));
        }
        for (int strength : new int[] {0, -10000, 10000, LEAST, MOST}) {
            Check.refused(x, "strength " + strength, ILLEGAL, () -> x.impulse(1, 0, strength));
        }
    }

    private static void impulseOfNoMass() {
        Check.range("chain 1;", "impulse", 0, 0, INDEX, (x, n) -> x.impulse(3, n, 5));
        Check.range("chain 12;", "impulse", 0, 11, INDEX, (x, n) -> x.impulse(3, n, 5));
    }

    private static SpringChain full() {
        return Check.loaded("chain 2;" + "impulse 0 0 5;".repeat(2) + "impulse 3 1 5;".repeat(13));
    }

    private static void impulseWhenFull() {
        SpringChain x = full();
        Check.due("the 16th", 16, () -> x.impulse(9999, 1, -5));
        Check.refused(x, "the 17th", STATE, () -> x.impulse(9999, 1, -5));
        Check.refused(x, "an earlier one", STATE, () -> x.impulse(0, 0, 5));
        x.pass(1);
        Check.due("two passed", 15, () -> x.impulse(1, 0, 5));
        Check.due("another one", 16, () -> x.impulse(1, 0, 5));
        Check.refused(x, "and one more", STATE, () -> x.impulse(1, 0, 5));
        x.undo();
        Check.due("one was undone", 16, () -> x.impulse(2, 0, 5));
    }

    private static void impulseOrder() {
        SpringChain x = full();
        x.impulse(3, 0, 1);
        x.pass(1);
        x.impulse(3, 0, 1);
        x.impulse(3, 0, 1);
        for (int mass : new int[] {-1, 2, LEAST, MOST}) {
            Check.throwsDue("no mass, and full", INDEX, () -> x.impulse(1, mass, 5));
            Check.throwsDue("no mass, no tick, and full", INDEX, () -> x.impulse(0, mass, 5));
            Check.throwsDue("no mass, no strength, and full", INDEX, () -> x.impulse(1, mass, 0));
        }
        for (int tick : new int[] {-1, 0, 10000, LEAST, MOST}) {
            Check.throwsDue("tick " + tick + ", and full", ILLEGAL, () -> x.impulse(tick, 0, 5));
        }
        for (int strength : new int[] {0, -10000, 10000, LEAST, MOST}) {
            Check.throwsDue("strength " + strength + ", and full", ILLEGAL, () -> x.impulse(1, 0, strength));
        }
        Check.throwsDue("only full", STATE, () -> x.impulse(1, 0, 5));
        SpringChain free = Check.loaded("chain 2;");
        Check.throwsDue("no mass and no tick", INDEX, () -> free.impulse(-1, 2, 5));
        Check.throwsDue("no mass and no strength", INDEX, () -> free.impulse(1, 2, 0));
    }

    private static void impulseReturns() {
        SpringChain x = Check.loaded("chain 1;springs 0;");
        for (int k = 1; k <= 16; k++) {
            int count = k;
            Check.due("the " + k + "th", k, () -> x.impulse(count % 2, 0, 5));
        }
        x.pass(1);
        Check.due("behind tick 0", 9, () -> x.impulse(9999, 0, 5));
        x.pass(50);
        Check.due("behind tick 1", 2, () -> x.impulse(9999, 0, 5));
    }

    private static void stiffenOutOfRange() {
        Check.range("chain 2;", "stiffen to", 0, 999, ILLEGAL, (x, n) -> x.stiffen(2, n));
    }

    private static void stiffenRange() {
        SpringChain x = Check.loaded("chain 2;");
        x.stiffen(0, 0);
        x.stiffen(2, 999);
        Check.row("stiffnesses", k -> x.spring(k, 0), INDEX, 0, 100, 999);
    }

    private static void stiffenOfNoSpring() {
        Check.range("chain 1;", "stiffen", 0, 1, INDEX, (x, n) -> x.stiffen(n, 5));
        Check.range("chain 12;", "stiffen", 0, 12, INDEX, (x, n) -> x.stiffen(n, 5));
    }

    private static void stiffenSpringFirst() {
        SpringChain x = Check.loaded("chain 2;");
        for (int spring : new int[] {-1, 3, LEAST, MOST}) {
            for (int n : new int[] {-1, 1000, LEAST, MOST}) {
                Check.throwsDue("stiffen(" + spring + ", " + n + ")", INDEX, () -> x.stiffen(spring, n));
            }
        }
    }

    private static void stiffenReturns() {
        SpringChain x = Check.loaded("chain 1;");
        Check.due("from 100", 100, () -> x.stiffen(1, 999));
        Check.due("from 999", 999, () -> x.stiffen(1, 0));
        Check.due("from 0", 0, () -> x.stiffen(1, 0));
        Check.due("of another", 100, () -> x.stiffen(0, 1));
    }

    private static void stiffenOfBroken() {
        SpringChain x = broken();
        Check.due("stiffen", 5, () -> x.stiffen(0, 999));
        Check.due("it is as stiff", 999, () -> x.spring(0, 0));
        Check.due("its limit stays", 9, () -> x.spring(0, 1));
        Check.due("and broken", 1, () -> x.spring(0, 2));
        Check.due("without a pull", 0, () -> x.spring(0, 4));
    }

    private static SpringChain broken() {
        SpringChain x = Check.loaded(BROKEN);
        Check.due("springs 0 and 2 break", 2, () -> x.pass(1));
        return x;
    }

    private static void mendOfNoSpring() {
        SpringChain x = broken();
        for (int spring : new int[] {-1, 3, LEAST, MOST}) {
            Check.refused(x, "mend(" + spring + ")", INDEX, () -> x.mend(spring));
        }
        Check.due("the last spring", 1, () -> x.mend(2));
        Check.due("the first spring", 0, () -> x.mend(0));
    }

    private static void mendOfWhole() {
        SpringChain x = broken();
        Check.refused(x, "a whole one", STATE, () -> x.mend(1));
        Check.due("a broken one", 1, () -> x.mend(0));
        Check.refused(x, "a mended one", STATE, () -> x.mend(0));
        SpringChain y = new SpringChain();
        Check.refused(y, "spring 0 of a new object", STATE, () -> y.mend(0));
        Check.refused(y, "spring 1 of a new object", STATE, () -> y.mend(1));
        Check.due("no change", -1, y::undo);
    }

    private static void mendSpringFirst() {
        SpringChain x = Check.loaded("chain 2;");
        for (int spring : new int[] {-1, 3, LEAST, MOST}) {
            Check.throwsDue("there is none, and so none that is broken", INDEX, () -> x.mend(spring));
        }
    }

    private static void mendReturns() {
        StringBuilder text = new StringBuilder("chain 12;springs 0;end right 1300;");
        for (int spring = 0; spring <= 12; spring++) {
            text.append("spring ").append(spring).append(" 0limit 99;");
        }
        SpringChain x = Check.loaded(text.toString());
        for (int mass = 0; mass < 12; mass++) {
            x.pluck(mass, 100 * mass + 100);
        }
        x.pass(1);
        for (int spring = 0; spring <= 12; spring++) {
            int at = spring;
            Check.due("mend " + spring, 12 - spring, () -> x.mend(at));
        }
        Check.due("broken", 0, () -> x.state(2));
    }

    private static void moveOutOfRange() {
        Check.range("chain 2;end left 7;end right 8;", "move left", -100000, 100000, ILLEGAL, (x, n) -> x.move(false, n));
        Check.range("chain 2;end left 7;end right 8;", "move right", -100000, 100000, ILLEGAL, (x, n) -> x.move(true, n));
    }

    private static void moveRange() {
        SpringChain x = Check.loaded("chain 2;end left 7;end right 8;");
        for (int n : new int[] {-100000, 100000, 0}) {
            x.move(false, n);
            x.move(true, -n);
            Check.due("left moved to " + n, n, () -> x.state(3));
            Check.due("right moved to " + -n, -n, () -> x.state(4));
        }
    }

    private static void movesOne() {
        SpringChain x = Check.loaded("chain 1;");
        x.move(true, 100000);
        Check.row("the right one", k -> x.spring(k, 3), INDEX, 0, 100000);
        x.move(false, -100000);
        Check.row("the left one", k -> x.spring(k, 3), INDEX, 100000, 100000);
        Check.due("left", -100000, () -> x.state(3));
        Check.due("right", 100000, () -> x.state(4));
    }

    private static void moveReturns() {
        SpringChain x = Check.loaded("chain 1;");
        Check.due("right from 0", 0, () -> x.move(true, 100000));
        Check.due("left from 0", 0, () -> x.move(false, -100000));
        Check.due("right from there", 100000, () -> x.move(true, 0));
        Check.due("left from there", -100000, () -> x.move(false, 0));
    }

    private static void noneToUndo() {
        SpringChain x = new SpringChain();
        String before = Check.all(x);
        Check.due("new", -1, x::undo);
        Check.due("new, again", -1, x::undo);
        Check.due("nothing changed", before, () -> Check.all(x));
        x.pluck(0, 5);
        Check.due("the only change", 0, x::undo);
        Check.due("none any more", -1, x::undo);
        Check.due("nothing changed", before, () -> Check.all(x));
        SpringChain nine = plucked(9);
        for (int k = 0; k < 8; k++) {
            nine.undo();
        }
        String last = Check.all(nine);
        Check.due("final ones alone", -1, nine::undo);
        Check.due("nothing changed", last, () -> Check.all(nine));
    }

    /** A new object, plucked so often, to 1, 2, 3 .. */
    private static SpringChain plucked(int often) {
        SpringChain x = new SpringChain();
        for (int k = 1; k <= often; k++) {
            x.pluck(0, k);
        }
        return x;
    }

    /** Undoes until there is none any more: so many, and then mass 0 has this displacement. */
    private static void undone(SpringChain x, int often, int displacement) {
        for (int k = often - 1; k >= 0; k--) {
            Check.due("undo", k, x::undo);
        }
        Check.due("undo, with none to undo", -1, x::undo);
        Check.due("displacement", displacement, () -> x.mass(0, 1));
    }

    private static void undoReturns() {
        undone(plucked(0), 0, 0);
        undone(plucked(1), 1, 0);
        undone(plucked(7), 7, 0);
        undone(plucked(8), 8, 0);
        undone(plucked(9), 8, 1);
        undone(plucked(100), 8, 92);
    }

    private static void undoesTheLatest() {
        SpringChain x = plucked(3);
        x.undo();
        Check.due("the third", 2, () -> x.mass(0, 1));
        x.undo();
        Check.due("the second", 1, () -> x.mass(0, 1));
        x.pluck(0, 50);
        x.undo();
        Check.due("a new one", 1, () -> x.mass(0, 1));
        x.undo();
        Check.due("the first", 0, () -> x.mass(0, 1));
        Check.due("undoing is no change", -1, x::undo);
    }

    private static void latestEight() {
        SpringChain x = plucked(20);
        for (int k = 19; k >= 12; k--) {
            x.undo();
            int at = k;
            Check.due("back to " + k, at, () -> x.mass(0, 1));
        }
        Check.due("not farther", -1, x::undo);
        SpringChain ticks = Check.loaded("chain 1;springs 0;");
        for (int k = 0; k < 9; k++) {
            ticks.pass(50);
        }
        for (int k = 0; k < 8; k++) {
            ticks.undo();
        }
        Check.due("8 times 50 ticks", 50, () -> ticks.state(0));
        Check.due("not farther", -1, ticks::undo);
    }

    private static void finalBehindEight() {
        undone(plucked(8), 8, 0);
        SpringChain x = plucked(9);
        for (int k = 0; k < 8; k++) {
            x.undo();
        }
        Check.due("final, also when the 8 later ones were undone", -1, x::undo);
        x.pluck(0, 70);
        x.pluck(0, 80);
        undone(x, 2, 1);
    }

    private static void undoneOnesDoNotCount() {
        SpringChain x = plucked(8);
        x.undo();
        x.undo();
        x.undo();
        x.pluck(0, 60);
        x.pluck(0, 70);
        x.pluck(0, 80);
        undone(x, 8, 0);
        SpringChain y = plucked(8);
        y.undo();
        y.pluck(0, 70);
        y.pluck(0, 80);
        undone(y, 8, 1);
        SpringChain z = new SpringChain();
        for (int k = 0; k < 20; k++) {
            z.pluck(0, 5);
            z.undo();
        }
        undone(z, 0, 0);
    }

    private static void bufferAndOffsetStay() {
        SpringChain x = new SpringChain();
        Check.due("a text", 2, () -> Check.load(x, "chain 2;"));
        Check.due("an error", SpringChain.SYNTAX_ERROR, () -> Check.load(x, "chain 2;masses 5;x"));
        Check.put(x, "chain 7;");
        Check.due("undo of the load", 0, x::undo);
        Check.due("the offset stays", 17, x::errorOffset);
        Check.throwsDue("no more is in the buffer", ILLEGAL, () -> x.load(21));
        Check.due("and no less", 7, () -> x.load(8));
        Check.due("undo", 0, x::undo);
        Check.due("the buffer stays empty", 20, () -> x.append(0, 0, 0, 0, 0));
    }

    private static Map<String, Check.Call> changesOf(SpringChain x) {
        Map<String, Check.Call> changes = new LinkedHashMap<>();
        changes.put("load", () -> Check.load(x, "chain 3;masses 5;springs 6;damp 7;pluck 0 8;strike 0 9;end left 10;"));
        changes.put("load of the least", () -> Check.load(x, "chain 1;"));
        changes.put("load of the most", () -> Check.load(x, "chain 12;pluck 11 8;impulse 3 11 5;"));
        changes.put("pass 1", () -> x.pass(1));
        changes.put("pass 50", () -> x.pass(50));
        changes.put("pluck", () -> x.pluck(1, -10000));
        changes.put("strike", () -> x.strike(0, 100000));
        changes.put("impulse", () -> x.impulse(9999, 0, -9999));
        changes.put("impulse ahead of the others", () -> x.impulse(1, 0, 9999));
        changes.put("stiffen", () -> x.stiffen(2, 999));
        changes.put("mend", () -> x.mend(0));
        changes.put("move left", () -> x.move(false, 100000));
        changes.put("move right", () -> x.move(true, -100000));
        return changes;
    }

    private static void eachChange() {
        for (String name : changesOf(null).keySet()) {
            SpringChain x = broken();
            String before = Check.all(x);
            changesOf(x).get(name).run();
            Check.due(name + " changes", true, () -> !Check.all(x).equals(before));
            Check.due("undo of " + name, 2, x::undo);
            Check.due("all behind the undo of " + name, before, () -> Check.all(x));
            changesOf(x).get(name).run();
            Check.due("undo of " + name + " once more", 2, x::undo);
            Check.due("all once more", before, () -> Check.all(x));
        }
    }

    private static void changesBehindALoad() {
        SpringChain x = broken();
        x.pass(2);
        String before = Check.all(x);
        Check.due("load", 12, () -> Check.load(x, "chain 12;pluck 11 -900;impulse 3 11 5;impulse 4 11 6;impulse 5 0 7;"));
        x.pass(20);
        x.pluck(5, 77);
        x.pass(20);
        Check.due("undo of 20 ticks", 6, x::undo);
        Check.due("undo of the pluck", 5, x::undo);
        Check.due("undo of 20 ticks", 4, x::undo);
        Check.due("undo of the load", 3, x::undo);
        Check.due("all behind it", before, () -> Check.all(x));
    }

    private static void noChange() {
        SpringChain x = broken();
        x.undo();
        x.undo();
        x.append(0, 0, 0, 0, 0);
        Check.due("a load with an error", SpringChain.SYNTAX_ERROR, () -> x.load(20));
        x.errorOffset();
        x.state(0);
        x.account(0);
        x.mass(0, 0);
        x.spring(0, 0);
        x.foretold(5, 0, 0);
        x.period(0, 9);
        x.breaksIn(9);
        x.pieces();
        x.centre();
        x.checksum();
        Check.due("none is a change", -1, x::undo);
    }

    private static void changesThatLeaveAll() {
        SpringChain x = new SpringChain();
        String before = Check.all(x);
        Check.due("load", 1, () -> Check.load(x, "chain 1;"));
        x.pluck(0, 0);
        x.strike(0, 0);
        x.stiffen(0, 100);
        x.move(false, 0);
        x.move(true, 0);
        Check.due("all as it was", before, () -> Check.all(x));
        for (int k = 5; k >= 0; k--) {
            Check.due("undo", k, x::undo);
        }
        Check.due("no more", -1, x::undo);
        Check.due("all as it was", before, () -> Check.all(x));
    }

    private static Map<String, Check.Call> refusedOf(SpringChain x) {
        Map<String, Check.Call> calls = new LinkedHashMap<>();
        calls.put("load 21", () -> x.load(21));
        calls.put("load -1", () -> x.load(-1));
        calls.put("state", () -> x.state(12));
        calls.put("account", () -> x.account(8));
        calls.put("mass", () -> x.mass(2, 0));
        calls.put("mass what", () -> x.mass(0, 4));
        calls.put("spring", () -> x.spring(3, 0));
        calls.put("spring what", () -> x.spring(0, 5));
        calls.put("noted", () -> x.noted(1, 0));
        calls.put("noted what", () -> x.noted(0, 2));
        calls.put("waiting", () -> x.waiting(2, 0));
        calls.put("waiting what", () -> x.waiting(0, 3));
        calls.put("foretold mass", () -> x.foretold(1, 2, 0));
        calls.put("foretold ticks", () -> x.foretold(201, 0, 0));
        calls.put("foretold what", () -> x.foretold(1, 0, 5));
        calls.put("period mass", () -> x.period(2, 1));
        calls.put("period limit", () -> x.period(0, 301));
        calls.put("breaksIn", () -> x.breaksIn(201));
        calls.put("pass", () -> x.pass(51));
        calls.put("pluck mass", () -> x.pluck(2, 5));
        calls.put("pluck", () -> x.pluck(0, 10001));
        calls.put("strike mass", () -> x.strike(2, 5));
        calls.put("strike", () -> x.strike(0, 100001));
        calls.put("impulse mass", () -> x.impulse(1, 2, 5));
        calls.put("impulse tick", () -> x.impulse(0, 0, 5));
        calls.put("impulse strength", () -> x.impulse(1, 0, 0));
        calls.put("stiffen spring", () -> x.stiffen(3, 5));
        calls.put("stiffen", () -> x.stiffen(0, 1000));
        calls.put("mend spring", () -> x.mend(3));
        calls.put("mend whole", () -> x.mend(1));
        calls.put("move left", () -> x.move(false, 100001));
        calls.put("move right", () -> x.move(true, -100001));
        return calls;
    }

    private static void refusedCalls() {
        for (String name : refusedOf(null).keySet()) {
            SpringChain x = broken();
            x.pass(1);
            Check.put(x, "chain 5;            ");
            x.impulse(2, 0, 1);
            x.impulse(9999, 0, 2);
            String before = Check.all(x);
            Check.due(name + " throws", true, () -> Check.outcome(refusedOf(x).get(name)).startsWith("throws."));
            Check.due("all behind " + name, before, () -> Check.all(x));
            Check.due("undo behind " + name, 4, x::undo);
            Check.due("the buffer behind " + name, 5, () -> x.load(20));
        }
    }

    private static void everyMassAndSpring() {
        for (int n : new int[] {1, 2, 12}) {
            SpringChain x = Check.loaded("chain " + n + ";");
            for (int mass : new int[] {-1, n, LEAST, MOST}) {
                Check.throwsDue("mass " + mass, INDEX, () -> x.mass(mass, 0));
                Check.throwsDue("foretold " + mass, INDEX, () -> x.foretold(1, mass, 0));
                Check.throwsDue("period " + mass, INDEX, () -> x.period(mass, 1));
                Check.throwsDue("pluck " + mass, INDEX, () -> x.pluck(mass, 0));
                Check.throwsDue("strike " + mass, INDEX, () -> x.strike(mass, 0));
                Check.throwsDue("impulse " + mass, INDEX, () -> x.impulse(1, mass, 1));
            }
            for (int spring : new int[] {-1, n + 1, LEAST, MOST}) {
                Check.throwsDue("spring " + spring, INDEX, () -> x.spring(spring, 0));
                Check.throwsDue("stiffen " + spring, INDEX, () -> x.stiffen(spring, 0));
                Check.throwsDue("mend " + spring, INDEX, () -> x.mend(spring));
            }
        }
    }
}
