import java.math.BigInteger;
import java.util.ArrayList;
import java.util.List;
import java.util.NoSuchElementException;

/**
 * Promises 5 to 10, 14, 15 and 24, and patterns: a test of its own for each sentence that names a
 * boundary.
 */
public final class BoundsOfTellingTest {
    private static final Class<? extends RuntimeException> ILLEGAL = IllegalArgumentException.class;
    private static final Class<? extends RuntimeException> INDEX = IndexOutOfBoundsException.class;
    private static final Class<? extends RuntimeException> NONE = NoSuchElementException.class;
    private static final int[] OUTSIDE = {-1, Integer.MIN_VALUE, Integer.MAX_VALUE};
    private static final String WHAT_LINE = "Throws `IllegalArgumentException` if what is out of range";
    private static final String MASS_LINE = "Throws `IndexOutOfBoundsException` if there is no such mass";
    private static final String SPRING_LINE = "Throws `IndexOutOfBoundsException` if there is no such spring";
    private static final String MANY_LINE = "Throws `NoSuchElementException` if there are not so many";
    private static final String FIRST_LINE = "If several exceptions apply to a call, the one that is listed first with"
            + " the method is thrown.";

    public static void main(String[] args) {
        state();
        accountMassAndSpring();
        noted();
        waiting();
        piecesAndCentre();
        checksum();
        Check.end();
    }

    private static void state() {
        Check.holds(5, WHAT_LINE, BoundsOfTellingTest::whatOfState);
        Check.holds(5, "2 broken springs,", BoundsOfTellingTest::noneAndAllBroken);
        Check.holds(5, "3 the displacement of the left end, 4 that of the right end,", BoundsOfTellingTest::endsTold);
        Check.holds(5, "6 impulses that wait (with ticks from the time on),", BoundsOfTellingTest::fromTheTimeOn);
        Check.holds(5, "The pattern of the chain is a number with a digit in base 3 for each mass, that of mass 0 being"
                + " the lowest:", BoundsOfTellingTest::leastAndGreatestPattern);
        Check.holds(5, "0 if its displacement is 0, 1 if it is greater, 2 if it is less than 0.",
                BoundsOfTellingTest::digits);
        Check.holds(5, "The nodes of the chain are how often, from mass 0 to the last one,",
                BoundsOfTellingTest::leastAndMostNodes);
        Check.holds(5, "leaving out those with the displacement 0, the sign changes.",
                BoundsOfTellingTest::nodesBesideZeros);
        Check.holds(5, "9 different patterns that are kept,", BoundsOfTellingTest::noneAndAllKept);
        Check.holds(5, "10 masses with the momentum 0,", BoundsOfTellingTest::noneAndAllResting);
        Check.holds(5, "11 the mass with the greatest displacement without its sign", BoundsOfTellingTest::withoutSign);
        Check.holds(5, "(of several the smallest index)", BoundsOfTellingTest::smallestOfSeveral);
    }

    private static void accountMassAndSpring() {
        Check.holds(6, WHAT_LINE, BoundsOfTellingTest::whatOfAccount);
        Check.holds(6, "0 the sum of all momenta,", BoundsOfTellingTest::sumOfTwelve);
        Check.holds(7, MASS_LINE, BoundsOfTellingTest::noSuchMass);
        Check.holds(7, WHAT_LINE, BoundsOfTellingTest::whatOfMass);
        Check.holds(7, FIRST_LINE, BoundsOfTellingTest::massAheadOfWhat);
        Check.holds(8, SPRING_LINE, BoundsOfTellingTest::noSuchSpring);
        Check.holds(8, WHAT_LINE, BoundsOfTellingTest::whatOfSpring);
        Check.holds(8, FIRST_LINE, BoundsOfTellingTest::springAheadOfWhat);
        Check.holds(8, "2 1 if it is broken, otherwise 0,", BoundsOfTellingTest::brokenOrNot);
    }

    private static void noted() {
        Check.holds(9, MANY_LINE, BoundsOfTellingTest::notSoManyPatterns);
        Check.holds(9, WHAT_LINE, BoundsOfTellingTest::whatOfNoted);
        Check.holds(9, FIRST_LINE, BoundsOfTellingTest::patternAheadOfWhat);
        Check.holds(9, "Different patterns that were noted since the latest successful load are kept,",
                BoundsOfTellingTest::notedSinceTheLoad);
        Check.holds(9, "in the order in which they were noted first, with how often they were noted;",
                BoundsOfTellingTest::orderOfPatterns);
        Check.holds(9, "at most 32 (further different ones are not kept).", BoundsOfTellingTest::atMost32);
    }

    private static void waiting() {
        Check.holds(10, "Tells the impulses that wait, by rising ticks,", BoundsOfTellingTest::risingTicks);
        Check.holds(10, "of the same tick by rising masses,", BoundsOfTellingTest::risingMasses);
        Check.holds(10, "of the same mass in the order in which they were told.", BoundsOfTellingTest::orderOfTelling);
        Check.holds(10, MANY_LINE, BoundsOfTellingTest::notSoManyImpulses);
        Check.holds(10, WHAT_LINE, BoundsOfTellingTest::whatOfWaiting);
        Check.holds(10, FIRST_LINE, BoundsOfTellingTest::impulseAheadOfWhat);
    }

    private static void piecesAndCentre() {
        Check.holds(14, "A piece of the chain is a set of masses joined, one with the next one,",
                BoundsOfTellingTest::leastAndMostPieces);
        Check.holds(14, "by whole springs with a stiffness above 0,", BoundsOfTellingTest::wholeAndAboveZero);
        Check.holds(14, "as large as it can be.", BoundsOfTellingTest::endsJoinNothing);
        Check.holds(15, "Returns the sum of weight * displacement over all masses and the sum of all weights,",
                BoundsOfTellingTest::farthestCentre);
        Check.holds(15, "both converted to double and divided.", BoundsOfTellingTest::dividedAsDoubles);
    }

    private static void checksum() {
        Check.holds(24, "It starts at 0;", BoundsOfTellingTest::checksumOfNew);
        Check.holds(24, "wrapping around on overflow of a long:", BoundsOfTellingTest::wrapsAround);
        Check.holds(24, "for each mass what mass(int, int) tells of it for 0 to 3; for each spring what spring(int, int)"
                + " tells of it for 0 to 4;", BoundsOfTellingTest::eachMassAndSpring);
        Check.holds(24, "for each pattern that is kept both of its numbers.", BoundsOfTellingTest::patternsInChecksum);
    }

    private static void whatOfState() {
        Check.range("chain 2;pluck 1 5;", "state", 0, 11, ILLEGAL, SpringChain::state);
    }

    /** 12 masses that do not move, and springs of which each breaks if it has a stretch. */
    private static SpringChain brittle() {
        StringBuilder text = new StringBuilder("chain 12;");
        for (int spring = 0; spring <= 12; spring++) {
            text.append("spring ").append(spring).append(" 1limit 1;");
        }
        return Check.loaded(text.toString());
    }

    private static void noneAndAllBroken() {
        SpringChain x = brittle();
        x.pass(1);
        Check.due("none", 0, () -> x.state(2));
        for (int mass = 0; mass < 12; mass += 2) {
            x.pluck(mass, 50);
        }
        x.move(true, 50);
        x.pass(1);
        Check.due("all", 13, () -> x.state(2));
        x.mend(0);
        x.mend(12);
        Check.due("two mended", 11, () -> x.state(2));
    }

    private static void endsTold() {
        SpringChain x = new SpringChain();
        for (int sign : new int[] {1, -1}) {
            x.move(false, -sign * 100000);
            x.move(true, sign * 100000);
            Check.due("left", -sign * 100000, () -> x.state(3));
            Check.due("right", sign * 100000, () -> x.state(4));
        }
    }

    private static void fromTheTimeOn() {
        SpringChain x = Check.loaded("chain 1;springs 0;impulse 0 0 1;impulse 5 0 1;impulse 6 0 1;impulse 9999 0 1;");
        Check.due("at 0", 4, () -> x.state(6));
        x.pass(5);
        Check.due("at 5 that of 5 waits", 3, () -> x.state(6));
        x.pass(1);
        Check.due("at 6 not any more", 2, () -> x.state(6));
        x.pass(1);
        Check.due("at 7", 1, () -> x.state(6));
        x.undo();
        Check.due("at 6 again", 2, () -> x.state(6));
    }

    private static SpringChain plucked(int... displacements) {
        StringBuilder text = new StringBuilder("chain " + displacements.length + ";");
        for (int mass = 0; mass < displacements.length; mass++) {
            text.append("pluck ").append(mass).append(' ').append(displacements[mass]).append(';');
        }
        return Check.loaded(text.toString());
    }

    private static void leastAndGreatestPattern() {
        Check.due("least", 0, () -> Check.loaded("chain 12;").state(7));
        Check.due("greatest of 12", 531440, () -> plucked(-1, -1, -1, -1, -1, -1, -1, -1, -1, -1, -1, -1).state(7));
        Check.due("greatest of 1", 2, () -> plucked(-1).state(7));
        Check.due("the lowest digit", 1, () -> plucked(5, 0, 0, 0, 0, 0, 0, 0, 0, 0, 0, 0).state(7));
        Check.due("the highest digit", 177147, () -> plucked(0, 0, 0, 0, 0, 0, 0, 0, 0, 0, 0, 5).state(7));
    }

    private static void digits() {
        int[][] cases = {{0, 0}, {1, 1}, {-1, 2}, {10000, 1}, {-10000, 2}};
        for (int[] c : cases) {
            Check.due("the digit of " + c[0], c[1], () -> plucked(c[0]).state(7));
            Check.due("the second digit of " + c[0], 3 * c[1], () -> plucked(0, c[0]).state(7));
        }
    }

    private static void leastAndMostNodes() {
        Check.due("one mass", 0, () -> plucked(-5).state(8));
        Check.due("all 0", 0, () -> Check.loaded("chain 12;").state(8));
        Check.due("all of one sign", 0, () -> plucked(-1, -2, -3, -4, -5, -6, -7, -8, -9, -10, -11, -12).state(8));
        Check.due("most", 11, () -> plucked(1, -1, 1, -1, 1, -1, 1, -1, 1, -1, 1, -1).state(8));
        Check.due("at the first ones alone", 1, () -> plucked(1, -1, -1).state(8));
        Check.due("at the last ones alone", 1, () -> plucked(-1, -1, 1).state(8));
        SpringChain ends = plucked(5, 5);
        ends.move(false, -5);
        ends.move(true, -5);
        Check.due("the ends are no masses", 0, () -> ends.state(8));
    }

    private static void nodesBesideZeros() {
        Check.due("0 between different signs", 1, () -> plucked(5, 0, 0, -5).state(8));
        Check.due("0 between equal signs", 0, () -> plucked(5, 0, 0, 5).state(8));
        Check.due("0 ahead", 0, () -> plucked(0, 0, -5, -5).state(8));
        Check.due("0 behind", 0, () -> plucked(-5, -5, 0, 0).state(8));
        Check.due("all of it", 2, () -> plucked(0, -5, 0, 5, 0, 0, 5, -1, 0).state(8));
    }

    private static void noneAndAllKept() {
        SpringChain x = Check.loaded("chain 4;springs 0;");
        Check.due("none", 0, () -> x.state(9));
        for (int pattern = 1; pattern <= 33; pattern++) {
            show(x, pattern);
            x.pass(1);
            int kept = Math.min(32, pattern);
            Check.due("behind " + pattern + " different ones", kept, () -> x.state(9));
        }
    }

    /** Plucks those of four masses that are not as the pattern has them. */
    private static void show(SpringChain x, int pattern) {
        int rest = pattern;
        for (int mass = 0; mass < 4; mass++) {
            int at = rest % 3 == 2 ? -5 : rest % 3 * 5;
            if (x.mass(mass, 1) != at) {
                x.pluck(mass, at);
            }
            rest /= 3;
        }
    }

    private static void noneAndAllResting() {
        Check.due("all of 12", 12, () -> Check.loaded("chain 12;").state(10));
        Check.due("the one", 1, () -> new SpringChain().state(10));
        Check.due("not of 1 and -1", 10, () -> Check.loaded("chain 12;strike 0 1;strike 11 -1;").state(10));
        Check.due("not the one", 0, () -> Check.loaded("chain 1;strike 0 1;").state(10));
        Check.due("not the one, though 9 / 10 is 0", 0, () -> Check.loaded("chain 1;strike 0 9;").state(10));
    }

    private static void withoutSign() {
        Check.due("-9 is greater than 8", 1, () -> plucked(8, -9, 7).state(11));
        Check.due("9 is greater than -8", 2, () -> plucked(-8, 7, 9).state(11));
        Check.due("the last of 12", 11, () -> plucked(0, 0, 0, 0, 0, 0, 0, 0, 0, 0, 0, -1).state(11));
        Check.due("the first of 12", 0, () -> plucked(-10000, 0, 0, 0, 0, 0, 0, 0, 0, 0, 0, 9999).state(11));
    }

    private static void smallestOfSeveral() {
        Check.due("all 0", 0, () -> Check.loaded("chain 12;").state(11));
        Check.due("all equal", 0, () -> plucked(4, 4, 4).state(11));
        Check.due("-4 ahead of 4", 1, () -> plucked(3, -4, 4).state(11));
        Check.due("4 ahead of -4", 1, () -> plucked(3, 4, -4).state(11));
    }

    private static void whatOfAccount() {
        Check.range("chain 2;pluck 1 5;", "account", 0, 7, ILLEGAL, SpringChain::account);
    }

    private static void sumOfTwelve() {
        StringBuilder text = new StringBuilder("chain 12;");
        for (int mass = 0; mass < 12; mass++) {
            text.append("strike ").append(mass).append(" -100000;");
        }
        Check.due("twelve", -1200000, () -> Check.loaded(text.toString()).account(0));
        Check.due("which cancel", 0, () -> Check.loaded("chain 2;strike 0 100000;strike 1 -100000;").account(0));
    }

    private static void noSuchMass() {
        Check.range("chain 1;", "mass", 0, 0, INDEX, (x, n) -> x.mass(n, 0));
        Check.range("chain 12;", "mass", 0, 11, INDEX, (x, n) -> x.mass(n, 3));
        SpringChain x = Check.loaded("chain 12;");
        Check.due("a smaller chain", 2, () -> Check.load(x, "chain 2;"));
        Check.row("masses", k -> x.mass(k, 0), INDEX, 10, 10);
    }

    private static void whatOfMass() {
        Check.range("chain 2;pluck 1 5;", "what", 0, 3, ILLEGAL, (x, n) -> x.mass(1, n));
    }

    private static void massAheadOfWhat() {
        SpringChain x = Check.loaded("chain 2;");
        for (int mass : new int[] {-1, 2, Integer.MAX_VALUE, Integer.MIN_VALUE}) {
            for (int what : new int[] {-1, 4, Integer.MAX_VALUE, Integer.MIN_VALUE}) {
                Check.throwsDue("mass(" + mass + ", " + what + ")", INDEX, () -> x.mass(mass, what));
            }
        }
    }

    private static void noSuchSpring() {
        Check.range("chain 1;", "spring", 0, 1, INDEX, (x, n) -> x.spring(n, 0));
        Check.range("chain 12;", "spring", 0, 12, INDEX, (x, n) -> x.spring(n, 4));
        SpringChain x = Check.loaded("chain 12;");
        Check.due("a smaller chain", 2, () -> Check.load(x, "chain 2;"));
        Check.row("springs", k -> x.spring(k, 0), INDEX, 100, 100, 100);
    }

    private static void whatOfSpring() {
        Check.range("chain 2;pluck 1 5;", "what", 0, 4, ILLEGAL, (x, n) -> x.spring(2, n));
    }

    private static void springAheadOfWhat() {
        SpringChain x = Check.loaded("chain 2;");
        for (int spring : new int[] {-1, 3, Integer.MAX_VALUE, Integer.MIN_VALUE}) {
            for (int what : new int[] {-1, 5, Integer.MAX_VALUE, Integer.MIN_VALUE}) {
                Check.throwsDue("spring(" + spring + ", " + what + ")", INDEX, () -> x.spring(spring, what));
            }
        }
    }

    private static void brokenOrNot() {
        SpringChain x = brittle();
        x.move(false, 9);
        x.move(true, 9);
        x.pass(1);
        Check.row("the first and the last", k -> x.spring(k, 2), INDEX, 1, 0, 0, 0, 0, 0, 0, 0, 0, 0, 0, 0, 1);
    }

    private static void notSoManyPatterns() {
        SpringChain x = Check.loaded("chain 1;masses 1;pluck 0 100;");
        for (int k : new int[] {0, -1, 1, 32, Integer.MAX_VALUE, Integer.MIN_VALUE}) {
            Check.refused(x, "noted(" + k + ") of none", NONE, () -> x.noted(k, 0));
        }
        x.pass(4);
        Check.row("of two", k -> x.noted(k, 0), NONE, 2, 1);
        SpringChain full = shownAll();
        for (int k : new int[] {32, 33, -1, Integer.MAX_VALUE, Integer.MIN_VALUE}) {
            Check.refused(full, "noted(" + k + ") of 32", NONE, () -> full.noted(k, 1));
        }
        Check.due("the last of 32", 32, () -> full.noted(31, 0));
    }

    /** A chain that noted the patterns 1 to 34. */
    private static SpringChain shownAll() {
        SpringChain x = Check.loaded("chain 4;springs 0;");
        for (int pattern = 1; pattern <= 34; pattern++) {
            show(x, pattern);
            x.pass(1);
        }
        return x;
    }

    private static void whatOfNoted() {
        SpringChain x = new SpringChain();
        x.pass(7);
        Check.row("what", k -> x.noted(0, k), ILLEGAL, 0, 7);
        Check.refused(x, "what 2", ILLEGAL, () -> x.noted(0, 2));
    }

    private static void patternAheadOfWhat() {
        SpringChain x = new SpringChain();
        Check.throwsDue("of none", NONE, () -> x.noted(0, 2));
        x.pass(1);
        for (int what : new int[] {-1, 2, Integer.MAX_VALUE, Integer.MIN_VALUE}) {
            for (int k : new int[] {-1, 1, Integer.MAX_VALUE, Integer.MIN_VALUE}) {
                Check.throwsDue("noted(" + k + ", " + what + ")", NONE, () -> x.noted(k, what));
            }
        }
    }

    private static void notedSinceTheLoad() {
        SpringChain x = shownAll();
        Check.due("a load with an error", true, () -> Check.load(x, "chain 2;x") < 0);
        Check.due("leaves them", 32, () -> x.state(9));
        Check.due("a load", 2, () -> Check.load(x, "chain 2;springs 0;"));
        Check.due("none", 0, () -> x.state(9));
        x.pass(1);
        Check.row("patterns", k -> x.noted(k, 0), NONE, 0);
        Check.row("times", k -> x.noted(k, 1), NONE, 1);
    }

    private static void orderOfPatterns() {
        SpringChain x = Check.loaded("chain 4;springs 0;");
        for (int pattern : new int[] {80, 0, 80, 5, 0, 80}) {
            show(x, pattern);
            x.pass(1);
        }
        Check.row("patterns", k -> x.noted(k, 0), NONE, 80, 0, 5);
        Check.row("times", k -> x.noted(k, 1), NONE, 3, 2, 1);
        SpringChain most = new SpringChain();
        for (int k = 0; k < 500; k++) {
            most.pass(50);
        }
        Check.row("the most times", k -> most.noted(k, 1), NONE, 25000);
    }

    private static void atMost32() {
        SpringChain x = shownAll();
        Check.due("kept", 32, () -> x.state(9));
        Check.due("the first", 1, () -> x.noted(0, 0));
        Check.due("the 32nd", 32, () -> x.noted(31, 0));
        Check.due("how often", 1, () -> x.noted(31, 1));
        x.pass(5);
        Check.due("one that is not kept changes nothing", 1, () -> x.noted(31, 1));
        show(x, 32);
        x.pass(2);
        Check.due("a kept one counts on", 3, () -> x.noted(31, 1));
        show(x, 1);
        x.pass(1);
        Check.due("the first one, too", 2, () -> x.noted(0, 1));
        Check.due("kept", 32, () -> x.state(9));
    }

    private static void risingTicks() {
        SpringChain x = Check.loaded("chain 2;impulse 9999 0 1;impulse 0 1 2;impulse 10 0 3;impulse 9 1 4;");
        x.impulse(1, 1, 5);
        x.impulse(9999, 0, 6);
        x.impulse(0, 0, 7);
        Check.row("ticks", k -> x.waiting(k, 0), NONE, 0, 0, 1, 9, 10, 9999, 9999);
        Check.row("strengths", k -> x.waiting(k, 2), NONE, 7, 2, 5, 4, 3, 1, 6);
    }

    private static void risingMasses() {
        SpringChain x = Check.loaded("chain 12;impulse 3 11 1;impulse 3 0 2;impulse 3 10 3;impulse 2 11 4;impulse 4 0 5;");
        x.impulse(3, 5, 6);
        Check.row("masses", k -> x.waiting(k, 1), NONE, 11, 0, 5, 10, 11, 0);
        Check.row("strengths", k -> x.waiting(k, 2), NONE, 4, 2, 6, 3, 1, 5);
    }

    private static void orderOfTelling() {
        SpringChain x = Check.loaded("chain 2;impulse 3 1 9;impulse 3 0 -8;impulse 3 1 -9;impulse 3 0 8;");
        x.impulse(3, 1, 7);
        x.impulse(3, 0, 7);
        Check.row("strengths", k -> x.waiting(k, 2), NONE, -8, 8, 7, 9, -9, 7);
        SpringChain full = Check.loaded("chain 1;" + "impulse 3 0 9;".repeat(15));
        full.impulse(3, 0, 5);
        Check.due("the 16th of equals is the last", 5, () -> full.waiting(15, 2));
        Check.due("the 15th", 9, () -> full.waiting(14, 2));
    }

    private static void notSoManyImpulses() {
        SpringChain none = new SpringChain();
        SpringChain two = Check.loaded("chain 1;springs 0;impulse 0 0 1;impulse 1 0 -2;");
        SpringChain full = Check.loaded("chain 1;" + "impulse 3 0 9;".repeat(16));
        for (int k : OUTSIDE) {
            Check.refused(none, "waiting(" + k + ") of none", NONE, () -> none.waiting(k, 0));
            Check.refused(two, "waiting(" + k + ") of 2", NONE, () -> two.waiting(k, 1));
            Check.refused(full, "waiting(" + k + ") of 16", NONE, () -> full.waiting(k, 2));
        }
        Check.refused(none, "waiting(0) of none", NONE, () -> none.waiting(0, 0));
        Check.refused(two, "waiting(2) of 2", NONE, () -> two.waiting(2, 0));
        Check.refused(full, "waiting(16) of 16", NONE, () -> full.waiting(16, 0));
        Check.due("the last of 16", 9, () -> full.waiting(15, 2));
        two.pass(1);
        Check.row("one passed", k -> two.waiting(k, 2), NONE, -2);
    }

    private static void whatOfWaiting() {
        SpringChain x = Check.loaded("chain 2;impulse 9999 1 -9999;");
        Check.row("what", k -> x.waiting(0, k), ILLEGAL, 9999, 1, -9999);
        Check.refused(x, "what 3", ILLEGAL, () -> x.waiting(0, 3));
    }

    private static void impulseAheadOfWhat() {
        SpringChain x = Check.loaded("chain 2;impulse 9999 1 -9999;");
        for (int what : new int[] {-1, 3, Integer.MAX_VALUE, Integer.MIN_VALUE}) {
            for (int k : new int[] {-1, 1, Integer.MAX_VALUE, Integer.MIN_VALUE}) {
                Check.throwsDue("waiting(" + k + ", " + what + ")", NONE, () -> x.waiting(k, what));
            }
        }
        Check.throwsDue("of none", NONE, () -> new SpringChain().waiting(0, 3));
    }

    private static void leastAndMostPieces() {
        Check.due("one mass", 1, () -> new SpringChain().pieces());
        Check.due("one mass that nothing joins", 1, () -> Check.loaded("chain 1;springs 0;").pieces());
        Check.due("12 masses in one", 1, () -> Check.loaded("chain 12;").pieces());
        Check.due("12 masses, each for itself", 12, () -> Check.loaded("chain 12;springs 0;").pieces());
        Check.due("only the last two joined", 11, () -> Check.loaded("chain 12;springs 0;spring 11 1;").pieces());
        Check.due("only the first two joined", 11, () -> Check.loaded("chain 12;springs 0;spring 1 1;").pieces());
    }

    private static void wholeAndAboveZero() {
        SpringChain x = Check.loaded("chain 2;spring 1 1 limit 5;pluck 1 50;");
        Check.due("stiffness 1", 1, x::pieces);
        x.stiffen(1, 0);
        Check.due("stiffness 0", 2, x::pieces);
        x.stiffen(1, 999);
        Check.due("stiffness 999", 1, x::pieces);
        x.pass(1);
        Check.due("broken", 2, x::pieces);
        x.stiffen(1, 0);
        Check.due("broken and of stiffness 0", 2, x::pieces);
        x.mend(1);
        Check.due("mended, but of stiffness 0", 2, x::pieces);
        x.stiffen(1, 1);
        Check.due("mended and of stiffness 1", 1, x::pieces);
    }

    private static void endsJoinNothing() {
        Check.due("without the ends' springs", 1, () -> Check.loaded("chain 3;spring 0 0;spring 3 0;").pieces());
        Check.due("with the ends' springs alone", 3,
                () -> Check.loaded("chain 3;springs 0;spring 0 5;spring 3 5;").pieces());
        SpringChain x = Check.loaded("chain 2;spring 0 1limit 5;spring 2 1limit 5;end left 90;end right 90;");
        Check.due("both break", 2, () -> x.pass(1));
        Check.due("one piece", 1, x::pieces);
    }

    private static void farthestCentre() {
        for (int sign : new int[] {1, -1}) {
            StringBuilder text = new StringBuilder("chain 12;masses 1;springs 0;");
            for (int mass = 0; mass < 12; mass++) {
                text.append("strike ").append(mass).append(' ').append(sign * 100000).append(';');
            }
            SpringChain x = Check.loaded(text.toString());
            x.pass(11);
            Check.due("all at the bound", sign * 1000000.0, x::centre);
        }
        Check.due("weights 1 and 99", 9800.0, () -> Check.loaded("chain 2;mass 0 1;mass 1 99;pluck 0 -10000;"
                + "pluck 1 10000;").centre());
        Check.due("all 0", 0.0, () -> Check.loaded("chain 12;").centre());
        Check.due("which cancel", 0.0, () -> plucked(5, -5).centre());
    }

    private static void dividedAsDoubles() {
        Check.due("a half", 0.5, () -> plucked(1, 0).centre());
        Check.due("less than a half", -0.5, () -> plucked(-1, 0).centre());
        Check.due("a third", 10.0 / 30.0, () -> plucked(0, 1, 0).centre());
        Check.due("two thirds below 0", -20.0 / 30.0, () -> plucked(0, -2, 0).centre());
        Check.due("the smallest part", 1.0 / (1.0 + 11 * 99.0), () -> Check.loaded("chain 12;masses 99;mass 0 1;"
                + "pluck 0 1;").centre());
    }

    /** What the checksum is made of, asked one by one. */
    private static List<Long> numbersOf(SpringChain x) {
        List<Long> all = new ArrayList<>();
        for (int what = 0; what <= 11; what++) {
            all.add((long) x.state(what));
        }
        for (int what = 0; what <= 7; what++) {
            all.add(x.account(what));
        }
        int masses = (int) (long) all.get(1);
        for (int k = 0; k < 4 * masses; k++) {
            all.add((long) x.mass(k / 4, k % 4));
        }
        for (int k = 0; k < 5 * (masses + 1); k++) {
            all.add((long) x.spring(k / 5, k % 5));
        }
        int kept = (int) (long) all.get(9);
        for (int k = 0; k < 2 * kept; k++) {
            all.add((long) x.noted(k / 2, k % 2));
        }
        return all;
    }

    /** The checksum without a bound. */
    private static BigInteger exact(List<Long> numbers) {
        BigInteger sum = BigInteger.ZERO;
        for (long n : numbers) {
            sum = sum.multiply(BigInteger.valueOf(31)).add(BigInteger.valueOf(n));
        }
        return sum;
    }

    private static void sumDue(String what, int count, SpringChain x) {
        List<Long> numbers = numbersOf(x);
        Check.due("how many numbers of " + what, count, numbers::size);
        Check.due(what, exact(numbers).longValue(), x::checksum);
    }

    private static void checksumOfNew() {
        sumDue("a new object", 12 + 8 + 4 + 10, new SpringChain());
        SpringChain x = new SpringChain();
        Check.due("asked again", x.checksum(), x::checksum);
    }

    private static void wrapsAround() {
        SpringChain x = Check.loaded("chain 12;masses 3;springs 998;pluck 0 9999;pluck 11 -9999;end left -100000;");
        x.pass(50);
        List<Long> numbers = numbersOf(x);
        Check.due("it is beyond a long", true, () -> exact(numbers).bitLength() > 64);
        Check.due("both signs come", true, () -> numbers.stream().anyMatch(n -> n < 0));
        Check.due("checksum", exact(numbers).longValue(), x::checksum);
    }

    private static void eachMassAndSpring() {
        sumDue("1 mass", 12 + 8 + 4 + 10, Check.loaded("chain 1;pluck 0 7;strike 0 33;"));
        sumDue("12 masses", 12 + 8 + 48 + 65, Check.loaded("chain 12;pluck 11 7;strike 11 33;spring 12 7 limit 8;"));
    }

    private static void patternsInChecksum() {
        sumDue("no pattern", 12 + 8 + 16 + 25, Check.loaded("chain 4;pluck 3 7;"));
        sumDue("32 patterns", 12 + 8 + 16 + 25 + 64, shownAll());
    }
}
