import java.util.NoSuchElementException;

/**
 * The chain, what a tick does, accounts and energies (heads 'Terms' and promises 6, 8 and 16): a test
 * of its own for each sentence that names a boundary. Where nothing else is said, an answer is worked
 * out by hand.
 */
public final class BoundsOfTicksTest {
    private static final Class<? extends RuntimeException> ILLEGAL = IllegalArgumentException.class;
    private static final Class<? extends RuntimeException> INDEX = IndexOutOfBoundsException.class;
    private static final int MOST_MOMENTUM = 100000000;
    private static final int MOST_DISPLACEMENT = 1000000;
    private static final String TWELVE_AT_REST = "chain 12;springs 0;";

    public static void main(String[] args) {
        chain();
        tick();
        breaking();
        accounts();
        energies();
        passing();
        Check.end();
    }

    private static void chain() {
        Check.holds(7, "Division rounds toward zero.", BoundsOfTicksTest::velocityRounds);
        Check.holds(8, "Division rounds toward zero.", BoundsOfTicksTest::pullRounds);
        Check.holds(16, "Division rounds toward zero.", BoundsOfTicksTest::tickRounds);
        Check.holds(5, "Time is counted in ticks, 0 at first.", BoundsOfTicksTest::timeAtFirst);
        Check.holds(7, "a displacement (-1000000 to 1000000, 0 at first) and a momentum (-100000000 to 100000000, 0 at"
                + " first).", BoundsOfTicksTest::massesAtFirst);
        Check.holds(8, "There is one spring more than masses: spring k joins mass k - 1 and mass k;",
                BoundsOfTicksTest::springsBetweenMasses);
        Check.holds(8, "spring 0 joins the left end and mass 0, the last spring the last mass and the right end.",
                BoundsOfTicksTest::springsAtEnds);
        Check.holds(8, "0: it does not pull)", BoundsOfTicksTest::stiffnessOfZero);
        Check.holds(8, "A broken spring does not pull.", BoundsOfTicksTest::brokenDoesNotPull);
        Check.holds(8, "Its pull is its stiffness * stretch / 100 if it is whole, otherwise 0.",
                BoundsOfTicksTest::greatestPull);
        Check.holds(10, "An impulse of a tick that passed waits no more.", BoundsOfTicksTest::passedImpulse);
    }

    private static void tick() {
        Check.holds(16, "(1) All pulls are taken, by displacements as they are.", BoundsOfTicksTest::pullsAtOnce);
        Check.holds(16, "To the momentum of each mass is added the pull of the spring on its right, less that of the"
                + " spring on its left.", BoundsOfTicksTest::firstAndLastMass);
        Check.holds(16, "(2) The impulses of the tick t are added to the momenta of their masses.",
                BoundsOfTicksTest::impulsesOfTheTick);
        Check.holds(19, "each with a tick (0 to 9999),", BoundsOfTicksTest::impulseOfTheLastTick);
        Check.holds(16, "(3) Of each momentum is taken momentum * damping / 1000.", BoundsOfTicksTest::leastAndMostDamping);
        Check.holds(16, "(4) Each momentum is limited to its range.", BoundsOfTicksTest::momentumIsLimited);
        Check.holds(16, "A number that is limited to a range becomes the nearer bound if it is outside of it.",
                BoundsOfTicksTest::nearerBound);
        Check.holds(16, "(4) Each momentum is limited to its range.", BoundsOfTicksTest::limitedBehindDamping);
        Check.holds(16, "(5) To each displacement is added momentum / weight, and it is limited to its range.",
                BoundsOfTicksTest::displacementIsLimited);
        Check.holds(16, "(7) The pattern is noted (see Patterns), and the time becomes greater by 1.",
                BoundsOfTicksTest::notedBehindMoving);
    }

    private static void breaking() {
        Check.holds(16, "(6) Each whole spring with a limit that is not 0,", BoundsOfTicksTest::limitOfZero);
        Check.holds(16, "whose stretch is greater than the limit", BoundsOfTicksTest::greaterThanLimit);
        Check.holds(16, "or less than -limit then, breaks", BoundsOfTicksTest::lessThanMinusLimit);
        Check.holds(16, "(6) Each whole spring with a limit that is not 0, whose stretch is greater than the limit or"
                + " less than -limit then, breaks", BoundsOfTicksTest::stretchBehindMoving);
        Check.holds(16, "(springs break in ticks alone;", BoundsOfTicksTest::breaksInTicksAlone);
        Check.holds(21, "a mended one is whole till then).", BoundsOfTicksTest::mendedTillThen);
        Check.holds(16, "(0 to 99999; 0: it never breaks);", BoundsOfTicksTest::greatestLimit);
    }

    private static void accounts() {
        Check.holds(6, "Since the latest successful load are counted:", BoundsOfTicksTest::sinceTheLoad);
        Check.holds(6, "what the left end gave (the sum of the pulls of spring 0, taken with the other sign),",
                BoundsOfTicksTest::leftGave);
        Check.holds(6, "what the right end gave (the sum of the pulls of the last spring),",
                BoundsOfTicksTest::rightGave);
        Check.holds(6, "what impulses and strikes gave,", BoundsOfTicksTest::impulsesAndStrikesGave);
        Check.holds(6, "what damping took,", BoundsOfTicksTest::dampingTook);
        Check.holds(6, "and what was lost by limiting momenta (the sum of the momenta ahead of (4) less the sum behind"
                + " it).", BoundsOfTicksTest::lostAtBothBounds);
        Check.holds(6, "So the sum of all momenta is always what both ends, impulses and strikes gave, less what damping"
                + " took and what was lost.", BoundsOfTicksTest::sumOfMomenta);
        Check.holds(6, "(All sums of the accounts are long numbers.)", BoundsOfTicksTest::endsBeyondInt);
        Check.holds(6, "(All sums of the accounts are long numbers.)", BoundsOfTicksTest::dampedBeyondInt);
        Check.holds(6, "(All sums of the accounts are long numbers.)", BoundsOfTicksTest::lostBeyondInt);
    }

    private static void energies() {
        Check.holds(6, "The energy of a mass is momentum * momentum / (2 * weight),", BoundsOfTicksTest::energyOfMasses);
        Check.holds(6, "that of a whole spring (each divided by itself, ahead of any sum) stiffness * stretch * stretch"
                + " / 200", BoundsOfTicksTest::dividedByItself);
        Check.holds(6, "(0 of a broken one);", BoundsOfTicksTest::energyOfBroken);
        Check.holds(6, "they are long numbers.", BoundsOfTicksTest::energiesBeyondInt);
    }

    private static void passing() {
        Check.holds(16, "- `ticks`: 1 to 50", BoundsOfTicksTest::ticksOfPass);
        Check.holds(16, "Throws `IllegalArgumentException` if ticks is out of range",
                BoundsOfTicksTest::ticksOutOfRange);
        Check.holds(16, "Returns how many springs broke in them.", BoundsOfTicksTest::howManyBroke);
        Check.holds(16, "An object is used for at most 512 calls after it has been made;", BoundsOfTicksTest::call512);
    }

    private static void velocityRounds() {
        int[][] cases = {{10, 9, 0}, {10, -9, 0}, {10, 10, 1}, {10, -10, -1}, {10, 19, 1}, {10, -19, -1}, {99, 98, 0},
            {99, -98, 0}, {99, -99, -1}, {99, -197, -1}, {1, -1, -1}, {1, 100000, 100000}};
        for (int[] c : cases) {
            SpringChain x = Check.loaded("chain 1;masses " + c[0] + ";strike 0 " + c[1] + ";");
            Check.due(c[1] + " / " + c[0], c[2], () -> x.mass(0, 3));
        }
    }

    private static void pullRounds() {
        int[][] cases = {{1, 99, 0}, {1, -99, 0}, {1, 100, 1}, {1, -100, -1}, {33, -25, -8}, {33, 25, 8}, {1, -199, -1},
            {999, 1, 9}, {999, -1, -9}, {50, -1, 0}};
        for (int[] c : cases) {
            SpringChain x = Check.loaded("chain 1;springs " + c[0] + ";end right " + c[1] + ";");
            Check.due("the pull of " + c[0] + " * " + c[1], c[2], () -> x.spring(1, 4));
        }
    }

    private static void tickRounds() {
        int[][] moved = {{9, 0}, {-9, 0}, {10, 1}, {-10, -1}, {-19, -1}, {19, 1}};
        for (int[] c : moved) {
            SpringChain x = Check.loaded("chain 1;springs 0;strike 0 " + c[0] + ";");
            x.pass(1);
            Check.due("displacement by " + c[0] + " / 10", c[1], () -> x.mass(0, 1));
            Check.due("the momentum stays", c[0], () -> x.mass(0, 2));
        }
        int[][] damped = {{1, 0}, {-1, 0}, {2, 1}, {-2, -1}, {3, 2}, {-3, -2}};
        for (int[] c : damped) {
            SpringChain x = Check.loaded("chain 1;springs 0;damp 999;strike 0 " + c[0] + ";");
            x.pass(1);
            Check.due("taken of " + c[0], c[1], () -> x.account(4));
        }
    }

    private static void timeAtFirst() {
        Check.due("new", 0, () -> new SpringChain().state(0));
        SpringChain x = new SpringChain();
        x.pass(50);
        x.pass(1);
        Check.due("51 ticks", 51, () -> x.state(0));
        Check.due("load", 1, () -> Check.load(x, "chain 1;"));
        Check.due("at first again", 0, () -> x.state(0));
    }

    private static void massesAtFirst() {
        SpringChain x = Check.loaded("chain 12;");
        Check.row("displacements", k -> x.mass(k, 1), INDEX, 0, 0, 0, 0, 0, 0, 0, 0, 0, 0, 0, 0);
        Check.row("momenta", k -> x.mass(k, 2), INDEX, 0, 0, 0, 0, 0, 0, 0, 0, 0, 0, 0, 0);
        for (int sign : new int[] {1, -1}) {
            SpringChain far = pumped(sign);
            far.pass(1);
            Check.due("the greatest displacement", sign * MOST_DISPLACEMENT, () -> far.mass(0, 1));
            Check.due("the greatest momentum", sign * MOST_MOMENTUM, () -> far.mass(0, 2));
            Check.due("momentum / weight", sign * 1010101, () -> far.mass(0, 3));
        }
    }

    private static void springsBetweenMasses() {
        StringBuilder text = new StringBuilder("chain 12;end left 4096;end right -9000;");
        for (int mass = 0; mass < 12; mass++) {
            text.append("pluck ").append(mass).append(' ').append(1 << mass).append(';');
        }
        SpringChain x = Check.loaded(text.toString());
        Check.row("stretches", k -> x.spring(k, 3), INDEX, 1 - 4096, 1, 2, 4, 8, 16, 32, 64, 128, 256, 512, 1024,
                -9000 - 2048);
    }

    private static void springsAtEnds() {
        SpringChain x = Check.loaded("chain 1;end left -100000;end right 100000;pluck 0 -10000;springs 999;");
        Check.row("stretches of the least chain", k -> x.spring(k, 3), INDEX, 90000, 110000);
        Check.row("pulls", k -> x.spring(k, 4), INDEX, 899100, 1098900);
        SpringChain y = Check.loaded("chain 2;end left 100000;end right -100000;");
        Check.row("stretches of two masses", k -> y.spring(k, 3), INDEX, -100000, 0, -100000);
    }

    private static void stiffnessOfZero() {
        SpringChain x = Check.loaded("chain 1;spring 0 0;spring 1 1;end left 100000;end right 100000;");
        Check.row("stretches", k -> x.spring(k, 3), INDEX, -100000, 100000);
        Check.row("pulls", k -> x.spring(k, 4), INDEX, 0, 1000);
        x.pass(1);
        Check.due("only the other pulled", 1000, () -> x.mass(0, 2));
    }

    private static void brokenDoesNotPull() {
        SpringChain x = Check.loaded("chain 1;masses 99;spring 0 100 limit 9;spring 1 0;end left -10;");
        Check.due("it breaks", 1, () -> x.pass(1));
        Check.due("in the tick in which it breaks it pulled", -10, () -> x.mass(0, 2));
        Check.row("spring", k -> x.spring(0, k), ILLEGAL, 100, 9, 1, 10, 0);
        x.pass(1);
        Check.due("then no more", -10, () -> x.mass(0, 2));
        x.stiffen(0, 999);
        Check.due("however stiff", 0, () -> x.spring(0, 4));
        x.mend(0);
        Check.due("mended it does", 99, () -> x.spring(0, 4));
    }

    /** Two masses as far from one another as they can be, the first one at -1000000 if the sign is 1. */
    private static SpringChain apart(int sign) {
        SpringChain x = Check.loaded("chain 2;masses 1;springs 0;strike 0 " + -sign * 100000 + ";strike 1 "
                + sign * 100000 + ";end left " + sign * 100000 + ";end right " + -sign * 100000 + ";");
        x.pass(10);
        for (int spring = 0; spring <= 2; spring++) {
            x.stiffen(spring, 999);
        }
        return x;
    }

    private static void greatestPull() {
        for (int sign : new int[] {1, -1}) {
            SpringChain x = apart(sign);
            Check.row("stretches", k -> x.spring(k, 3), INDEX, -sign * 1100000, sign * 2000000, -sign * 1100000);
            Check.row("pulls", k -> x.spring(k, 4), INDEX, -sign * 10989000, sign * 19980000, -sign * 10989000);
            x.pass(1);
            Check.due("momentum 0", sign * (30969000 - 100000), () -> x.mass(0, 2));
            Check.due("momentum 1", -sign * (30969000 - 100000), () -> x.mass(1, 2));
        }
    }

    private static void passedImpulse() {
        SpringChain x = Check.loaded("chain 1;springs 0;impulse 0 0 5;impulse 1 0 6;impulse 1 0 7;impulse 2 0 8;");
        Check.row("ahead of tick 0", k -> x.waiting(k, 2), NoSuchElementException.class, 5, 6, 7, 8);
        x.pass(1);
        Check.row("ahead of tick 1", k -> x.waiting(k, 2), NoSuchElementException.class, 6, 7, 8);
        x.pass(1);
        Check.row("ahead of tick 2", k -> x.waiting(k, 2), NoSuchElementException.class, 8);
        x.pass(1);
        Check.row("ahead of tick 3", k -> x.waiting(k, 2), NoSuchElementException.class);
        Check.due("none waits", 0, () -> x.state(6));
    }

    private static void pullsAtOnce() {
        SpringChain x = Check.loaded("chain 3;masses 1;pluck 0 100;pluck 2 -50;");
        x.pass(1);
        // pulls 100, -100, -50, 50
        Check.row("momenta", k -> x.mass(k, 2), INDEX, -200, 50, 100);
        Check.row("displacements", k -> x.mass(k, 1), INDEX, -100, 50, 50);
    }

    private static void firstAndLastMass() {
        SpringChain x = Check.loaded("chain 12;end left -100;end right 70;");
        x.pass(1);
        Check.row("momenta", k -> x.mass(k, 2), INDEX, -100, 0, 0, 0, 0, 0, 0, 0, 0, 0, 0, 70);
        SpringChain y = Check.loaded("chain 1;end left -100;end right 70;");
        y.pass(1);
        Check.due("the first is the last", -30, () -> y.mass(0, 2));
    }

    private static void impulsesOfTheTick() {
        SpringChain x = Check.loaded("chain 12;springs 0;impulse 1 11 -9999;impulse 0 0 5;impulse 1 0 7;impulse 1 0 30;"
                + "impulse 2 0 100;");
        x.pass(1);
        Check.due("those of tick 0", 5, () -> x.mass(0, 2));
        Check.due("not those of tick 1", 0, () -> x.mass(11, 2));
        x.pass(1);
        Check.due("all those of tick 1", 42, () -> x.mass(0, 2));
        Check.due("of every mass", -9999, () -> x.mass(11, 2));
        x.pass(1);
        Check.due("each once", 142, () -> x.mass(0, 2));
        x.pass(1);
        Check.due("and no more", 142, () -> x.mass(0, 2));
        SpringChain full = Check.loaded("chain 1;springs 0;" + "impulse 0 0 9999;".repeat(16));
        full.pass(1);
        Check.due("16 of one tick", 16 * 9999, () -> full.mass(0, 2));
    }

    private static void impulseOfTheLastTick() {
        SpringChain x = Check.loaded("chain 1;springs 0;impulse 9999 0 77;");
        for (int k = 0; k < 199; k++) {
            x.pass(50);
        }
        x.pass(49);
        Check.due("time", 9999, () -> x.state(0));
        Check.due("it waits", 1, () -> x.state(6));
        Check.due("one of this time can be told", 2, () -> x.impulse(9999, 0, 3));
        Check.due("not given yet", 0, () -> x.mass(0, 2));
        x.pass(1);
        Check.due("given", 80, () -> x.mass(0, 2));
        Check.due("time", 10000, () -> x.state(0));
        Check.refused(x, "an impulse behind the last tick", ILLEGAL, () -> x.impulse(9999, 0, 3));
        Check.refused(x, "an impulse of tick 10000", ILLEGAL, () -> x.impulse(10000, 0, 3));
    }

    private static void leastAndMostDamping() {
        int[][] cases = {{0, 100000, 0}, {0, -100000, 0}, {1, 999, 0}, {1, -999, 0}, {1, 1000, 1}, {1, -1000, -1},
            {999, 100000, 99900}, {999, -100000, -99900}, {999, 1001, 999}, {999, 1002, 1000}};
        for (int[] c : cases) {
            SpringChain x = Check.loaded("chain 1;springs 0;damp " + c[0] + ";strike 0 " + c[1] + ";");
            x.pass(1);
            Check.due("damp " + c[0] + " leaves of " + c[1], c[1] - c[2], () -> x.mass(0, 2));
            Check.due("took", c[2], () -> x.account(4));
        }
        SpringChain given = Check.loaded("chain 1;springs 0;damp 500;impulse 0 0 100;");
        given.pass(1);
        Check.due("an impulse is damped in its tick", 50, () -> given.mass(0, 2));
        // 2 * 1098900 * 999 is more than an int holds.
        SpringChain y = Check.loaded("chain 1;springs 999;damp 999;end left 100000;end right 100000;pluck 0 -10000;");
        y.pass(1);
        Check.due("of 2197800", 2197800 - 2195602, () -> y.mass(0, 2));
    }

    /** A mass with the momentum 100000000 of this sign, at displacement 1000000 of this sign, and no pulls. */
    private static SpringChain pumped(int sign) {
        return pumped(sign, 0);
    }

    /** The same with a damping: more ticks, so that the momentum comes to its bound by ticks, and some is lost. */
    private static SpringChain pumped(int sign, int damping) {
        SpringChain x = Check.loaded("chain 1;masses 99;springs 999;damp " + damping + ";end left " + sign * 100000
                + ";end right " + sign * 100000 + ";");
        // Each tick gives 2 * 1098900.
        for (int k = 0; k < (damping == 0 ? 45 : 50); k++) {
            x.pluck(0, -sign * 10000);
            x.pass(1);
        }
        for (int k = 0; k < (damping == 0 ? 10 : 0); k++) {
            x.strike(0, sign * 100000);
        }
        Check.due("momentum", damping == 0 ? sign * 99901000 : sign * MOST_MOMENTUM, () -> x.mass(0, 2));
        if (damping == 0) {
            Check.due("momentum", sign * MOST_MOMENTUM, () -> x.strike(0, sign * 99000));
        }
        x.stiffen(0, 0);
        x.stiffen(1, 0);
        return x;
    }

    private static void momentumIsLimited() {
        for (int sign : new int[] {1, -1}) {
            SpringChain x = pumped(sign);
            x.pass(1);
            Check.due("the bound stays", sign * MOST_MOMENTUM, () -> x.mass(0, 2));
            Check.due("nothing is lost", 0, () -> x.account(5));
            x.impulse(x.state(0), 0, sign);
            x.pass(1);
            Check.due("one beyond the bound", sign * MOST_MOMENTUM, () -> x.mass(0, 2));
            Check.due("is lost", sign, () -> x.account(5));
            x.impulse(x.state(0), 0, -sign);
            x.pass(1);
            Check.due("one within the bound", sign * (MOST_MOMENTUM - 1), () -> x.mass(0, 2));
            Check.due("nothing more is lost", sign, () -> x.account(5));
            x.impulse(x.state(0), 0, sign);
            x.pass(1);
            Check.due("up to the bound", sign * MOST_MOMENTUM, () -> x.mass(0, 2));
            Check.due("nothing is lost of it", sign, () -> x.account(5));
        }
    }

    private static void nearerBound() {
        for (int sign : new int[] {1, -1}) {
            SpringChain x = pumped(sign);
            x.impulse(x.state(0), 0, sign * 9999);
            x.pass(1);
            Check.due("the momentum's nearer bound", sign * MOST_MOMENTUM, () -> x.mass(0, 2));
            Check.due("the displacement's nearer bound", sign * MOST_DISPLACEMENT, () -> x.mass(0, 1));
            Check.due("a struck one's nearer bound", sign * MOST_MOMENTUM, () -> x.strike(0, sign * 100000));
        }
    }

    private static void limitedBehindDamping() {
        SpringChain x = pumped(1, 1);
        long lost = x.account(5);
        Check.due("some was lost", true, () -> lost > 0);
        x.impulse(x.state(0), 0, 9999);
        x.pass(1);
        // Of 100009999 is taken 100009 first, and so nothing is beyond the bound.
        Check.due("damped, and not limited", 99909990, () -> x.mass(0, 2));
        Check.due("nothing is lost", lost, () -> x.account(5));
    }

    private static void displacementIsLimited() {
        for (int sign : new int[] {1, -1}) {
            SpringChain x = Check.loaded("chain 2;masses 1;springs 0;pluck 0 " + sign * 10000 + ";pluck 1 "
                    + sign * 10000 + ";strike 0 " + sign * 99000 + ";strike 1 " + sign * 99001 + ";");
            x.pass(9);
            Check.row("ahead", k -> x.mass(k, 1), INDEX, sign * 901000, sign * 901009);
            x.pass(1);
            Check.row("at the bound, and 10 beyond it", k -> x.mass(k, 1), INDEX, sign * 1000000, sign * 1000000);
            Check.row("momenta stay", k -> x.mass(k, 2), INDEX, sign * 99000, sign * 99001);
            x.pass(1);
            Check.row("they stay at the bound", k -> x.mass(k, 1), INDEX, sign * 1000000, sign * 1000000);
            x.strike(1, -sign * 99002);
            x.pass(1);
            Check.due("and come back from there", sign * 999999, () -> x.mass(1, 1));
        }
        SpringChain heavy = Check.loaded("chain 4;masses 99;springs 0;strike 0 98;strike 1 -98;strike 2 99;strike 3 -99;");
        heavy.pass(1);
        Check.row("moved by less than 1 and by 1", k -> heavy.mass(k, 1), INDEX, 0, 0, 1, -1);
    }

    private static void notedBehindMoving() {
        SpringChain x = Check.loaded("chain 1;masses 1;springs 0;strike 0 5;");
        Check.due("ahead", 0, () -> x.state(9));
        x.pass(1);
        Check.row("the pattern behind the move", k -> x.noted(k, 0), NoSuchElementException.class, 1);
        Check.row("once", k -> x.noted(k, 1), NoSuchElementException.class, 1);
        Check.due("time", 1, () -> x.state(0));
        x.pass(50);
        Check.row("51 times", k -> x.noted(k, 1), NoSuchElementException.class, 51);
        Check.due("time", 51, () -> x.state(0));
    }

    private static void limitOfZero() {
        SpringChain x = Check.loaded("chain 1;masses 1;springs 0;end left 100000;strike 0 -100000;");
        Check.due("none breaks", 0, () -> x.pass(11));
        Check.row("stretches", k -> x.spring(k, 3), INDEX, -1100000, 1000000);
        Check.row("whole", k -> x.spring(k, 2), INDEX, 0, 0);
    }

    /** A chain of 12 at rest, of which one spring has a limit and gets a stretch, as the tick finds it. */
    private static SpringChain stretched(int spring, int limit, int stretch) {
        SpringChain x = Check.loaded(TWELVE_AT_REST + "spring " + spring + " 0 limit " + limit + ";");
        if (spring == 0) {
            x.move(false, -stretch);
        } else if (spring == 12) {
            x.move(true, stretch);
        } else {
            x.pluck(spring, stretch);
        }
        Check.due("stretch", stretch, () -> x.spring(spring, 3));
        return x;
    }

    private static void breaksWith(int spring, int limit, int stretch, int broke) {
        SpringChain x = stretched(spring, limit, stretch);
        String what = "spring " + spring + " with limit " + limit + " and stretch " + stretch;
        Check.due(what, broke, () -> x.pass(1));
        Check.due(what + " is broken", broke, () -> x.spring(spring, 2));
        Check.due("broken ones", broke, () -> x.state(2));
    }

    private static void greaterThanLimit() {
        for (int spring : new int[] {0, 1, 6, 11, 12}) {
            for (int limit : new int[] {1, 2, 9999}) {
                breaksWith(spring, limit, limit, 0);
                breaksWith(spring, limit, limit + 1, 1);
            }
        }
    }

    private static void lessThanMinusLimit() {
        for (int spring : new int[] {0, 1, 6, 11, 12}) {
            for (int limit : new int[] {1, 2, 9999}) {
                breaksWith(spring, limit, -limit, 0);
                breaksWith(spring, limit, -limit - 1, 1);
            }
        }
    }

    private static void greatestLimit() {
        for (int spring : new int[] {0, 12}) {
            breaksWith(spring, 99999, 99999, 0);
            breaksWith(spring, 99999, -99999, 0);
            breaksWith(spring, 99999, 100000, 1);
            breaksWith(spring, 99999, -100000, 1);
            breaksWith(spring, 0, 100000, 0);
            breaksWith(spring, 0, -100000, 0);
        }
    }

    private static void stretchBehindMoving() {
        SpringChain back = Check.loaded("chain 1;masses 1;springs 0;spring 0 0 limit 10;pluck 0 20;strike 0 -15;");
        Check.due("beyond it ahead of the tick alone", 0, () -> back.pass(1));
        Check.due("stretch", 5, () -> back.spring(0, 3));
        SpringChain out = Check.loaded("chain 1;masses 1;springs 0;spring 0 0 limit 10;pluck 0 5;strike 0 6;");
        Check.due("beyond it behind the tick", 1, () -> out.pass(1));
        Check.due("stretch", 11, () -> out.spring(0, 3));
        SpringChain over = Check.loaded("chain 1;masses 1;springs 0;spring 0 0 limit 10;pluck 0 -10;strike 0 20;");
        Check.due("from one limit to the other in a tick", 0, () -> over.pass(1));
    }

    private static void breaksInTicksAlone() {
        SpringChain x = Check.loaded("chain 2;springs 0;spring 0 0 limit 5;spring 1 0 limit 5;spring 2 0 limit 5;"
                + "pluck 0 100;");
        Check.due("not by the text", 0, () -> x.state(2));
        x.pluck(1, -100);
        Check.due("not by a pluck", 0, () -> x.state(2));
        x.move(true, 100);
        Check.due("not by a move", 0, () -> x.state(2));
        x.stiffen(0, 999);
        x.strike(0, 100000);
        x.foretold(200, 0, 3);
        x.breaksIn(200);
        x.period(0, 300);
        Check.due("not by what is foretold", 0, () -> x.state(2));
        Check.due("in a tick", 3, () -> x.pass(1));
    }

    private static void mendedTillThen() {
        SpringChain x = Check.loaded("chain 1;springs 0;spring 0 100 limit 5;pluck 0 100;masses 99;");
        Check.due("it breaks", 1, () -> x.pass(1));
        Check.due("mend", 0, () -> x.mend(0));
        Check.row("whole, however stretched", k -> x.spring(0, k), ILLEGAL, 100, 5, 0, 99, 99);
        Check.due("it breaks in the next tick", 1, () -> x.pass(1));
        Check.due("in which it pulled", -199, () -> x.mass(0, 2));
        Check.due("mend", 0, () -> x.mend(0));
        x.pluck(0, 5);
        x.strike(0, 199);
        Check.due("not stretched any more, it stays whole", 0, () -> x.pass(1));
    }

    /** A chain of which no account is 0. */
    private static SpringChain accounted() {
        SpringChain x = pumped(1, 1);
        x.strike(0, -7);
        for (int what = 0; what <= 6; what++) {
            int at = what;
            Check.due("account " + what + " is not 0", true, () -> x.account(at) != 0);
        }
        return x;
    }

    private static void sinceTheLoad() {
        SpringChain x = accounted();
        long before = x.checksum();
        Check.due("a load with an error", true, () -> Check.load(x, "chain 1;x") < 0);
        Check.due("counts on", before, x::checksum);
        x.foretold(200, 0, 0);
        Check.due("a load", 1, () -> Check.load(x, "chain 1;strike 0 -9;"));
        Check.row("only what its text gave", x::account, ILLEGAL, -9, 0, 0, -9, 0, 0, 4, 0);
        Check.due("undo", true, () -> x.undo() > 0);
        Check.due("all is back", before, x::checksum);
    }

    private static void leftGave() {
        for (int sign : new int[] {1, -1}) {
            SpringChain x = Check.loaded("chain 2;springs 0;spring 0 100;end left " + sign * 60 + ";");
            x.pass(1);
            Check.row("account", x::account, ILLEGAL, sign * 60, sign * 60, 0, 0, 0, 0, 180, 54 * 54 / 2);
        }
        SpringChain broken = Check.loaded("chain 2;masses 99;springs 0;spring 0 100 limit 5;end left 60;");
        broken.pass(1);
        Check.due("up to its breaking", 60, () -> broken.account(1));
        broken.pass(5);
        Check.due("a broken one gives nothing", 60, () -> broken.account(1));
    }

    private static void rightGave() {
        for (int sign : new int[] {1, -1}) {
            SpringChain x = Check.loaded("chain 12;springs 0;spring 12 100;end right " + sign * 60 + ";");
            x.pass(1);
            Check.row("account", x::account, ILLEGAL, sign * 60, 0, sign * 60, 0, 0, 0, 180, 54 * 54 / 2);
        }
        SpringChain inner = Check.loaded("chain 12;springs 0;spring 11 100;pluck 11 50;");
        inner.pass(1);
        Check.due("springs between masses give nothing", 0, () -> inner.account(2));
        SpringChain broken = Check.loaded("chain 1;masses 99;springs 0;spring 1 100 limit 5;end right 60;");
        broken.pass(9);
        Check.due("a broken one gives nothing more", 60, () -> broken.account(2));
    }

    private static void impulsesAndStrikesGave() {
        SpringChain x = Check.loaded("chain 2;springs 0;strike 0 5;impulse 0 1 20;impulse 1 1 -300;");
        Check.due("an impulse that waits gave nothing", 5, () -> x.account(3));
        x.strike(1, -1000);
        Check.due("a strike", -995, () -> x.account(3));
        x.pass(1);
        Check.due("an impulse", -975, () -> x.account(3));
        x.pass(1);
        Check.due("both", -1275, () -> x.account(3));
        SpringChain most = pumped(1);
        most.impulse(most.state(0), 0, 9999);
        long given = most.account(3);
        most.pass(1);
        Check.due("an impulse gives all of it, also if the momentum is limited", given + 9999, () -> most.account(3));
    }

    private static void dampingTook() {
        SpringChain x = Check.loaded("chain 2;springs 0;damp 500;strike 0 101;strike 1 -41;");
        x.pass(1);
        Check.due("50 less 20", 30, () -> x.account(4));
        Check.row("momenta", k -> x.mass(k, 2), INDEX, 51, -21);
        SpringChain none = Check.loaded("chain 2;springs 0;damp 0;strike 0 100000;");
        none.pass(50);
        Check.due("no damping took nothing", 0, () -> none.account(4));
    }

    private static void lostAtBothBounds() {
        for (int sign : new int[] {1, -1}) {
            SpringChain x = pumped(sign);
            x.impulse(x.state(0), 0, sign * 9999);
            x.impulse(x.state(0) + 1, 0, sign * 1);
            x.pass(1);
            Check.due("lost", sign * 9999, () -> x.account(5));
            x.pass(1);
            Check.due("lost", sign * 10000, () -> x.account(5));
            x.strike(0, sign * 100000);
            Check.due("a strike loses nothing", sign * 10000, () -> x.account(5));
        }
    }

    private static void sumOfMomenta() {
        SpringChain[] chains = {accounted(), pumped(-1), apart(1), apart(-1), new SpringChain(), Check.loaded(
                "chain 12;masses 3;springs 999;spring 4 7 limit 9;damp 33;end left -77777;end right 5555;strike 3 -99999;"
                + "pluck 9 10000;impulse 9 3 -9999;impulse 0 4 9999;")};
        for (SpringChain x : chains) {
            for (int k = 0; k < 15; k++) {
                x.strike(0, k % 2 == 0 ? 100000 : -99999);
                x.pass(1 + k);
                long sum = x.account(1) + x.account(2) + x.account(3) - x.account(4) - x.account(5);
                Check.due("the sum of all momenta", sum, () -> x.account(0));
            }
        }
    }

    private static void endsBeyondInt() {
        SpringChain x = Check.loaded("chain 1;springs 999;end left -100000;end right 100000;");
        for (int k = 0; k < 44; k++) {
            x.pass(50);
        }
        // 2200 ticks, in each of them 999000 from either end
        Check.row("account", x::account, ILLEGAL, 0, -2197800000L, 2197800000L, 0, 0, 0, 0,
                2 * (999L * 100000 * 100000 / 200));
    }

    private static void dampedBeyondInt() {
        SpringChain x = Check.loaded("chain 1;masses 99;springs 999;damp 999;end left 100000;end right 100000;"
                + "pluck 0 -10000;");
        long momentum = 0;
        long at = -10000;
        long damped = 0;
        for (int k = 0; k < 2000; k++) {
            momentum += 999 * (100000 - at) / 100 - 999 * (at - 100000) / 100;
            damped += momentum * 999 / 1000;
            momentum -= momentum * 999 / 1000;
            at += momentum / 99;
            if (k % 50 == 0) {
                x.pass(50);
            }
        }
        long due = damped;
        Check.due("it is beyond an int", true, () -> due > Integer.MAX_VALUE);
        Check.due("what damping took", due, () -> x.account(4));
    }

    /*
     * The middle mass, its momentum at its bound, is plucked below its neighbours again and again: what
     * they pull it up by is lost. With its springs off, they swing and get their momentum back from the ends.
     */
    private static void lostBeyondInt() {
        for (int sign : new int[] {1, -1}) {
            SpringChain x = Check.loaded("chain 3;masses 99;mass 1 1;springs 999;end left " + sign * 100000
                    + ";end right " + sign * 100000 + ";pluck 1 " + sign * -10000 + ";");
            long[] at = {0, sign * -10000, 0};
            long[] momenta = new long[3];
            x.pass(14);
            long lost = reckonLost(at, momenta, sign, 999, 14);
            for (int cycle = 0; cycle < 38; cycle++) {
                for (int k = 0; k < 4; k++) {
                    x.pluck(1, sign * -10000);
                    x.pass(1);
                    at[1] = sign * -10000;
                    lost += reckonLost(at, momenta, sign, 999, 1);
                }
                x.stiffen(1, 0);
                x.stiffen(2, 0);
                x.pass(13);
                lost += reckonLost(at, momenta, sign, 0, 13);
                x.stiffen(1, 999);
                x.stiffen(2, 999);
            }
            long due = lost;
            Check.due("it is beyond an int", true, () -> sign * due > Integer.MAX_VALUE);
            Check.due("what was lost", due, () -> x.account(5));
            Check.due("the sum of all momenta", x.account(1) + x.account(2) - due, () -> x.account(0));
        }
    }

    /** What is lost in some ticks by three masses of weight 99, 1, 99, the outer springs of stiffness 999. */
    private static long reckonLost(long[] at, long[] momenta, int sign, int inner, int ticks) {
        long lost = 0;
        for (int k = 0; k < ticks; k++) {
            long[] pulls = {999 * (at[0] - sign * 100000) / 100, inner * (at[1] - at[0]) / 100,
                inner * (at[2] - at[1]) / 100, 999 * (sign * 100000 - at[2]) / 100};
            for (int mass = 0; mass < 3; mass++) {
                long ahead = momenta[mass] + pulls[mass + 1] - pulls[mass];
                momenta[mass] = Math.max(-MOST_MOMENTUM, Math.min(MOST_MOMENTUM, ahead));
                lost += ahead - momenta[mass];
                long to = at[mass] + momenta[mass] / (mass == 1 ? 1 : 99);
                at[mass] = Math.max(-MOST_DISPLACEMENT, Math.min(MOST_DISPLACEMENT, to));
            }
        }
        return lost;
    }

    private static void energyOfMasses() {
        int[][] cases = {{0, 10, 0}, {1, 1, 0}, {2, 1, 2}, {3, 1, 4}, {-5, 3, 4}, {-2, 1, 2}, {14, 99, 0}, {-15, 99, 1},
            {100, 50, 100}};
        for (int[] c : cases) {
            SpringChain x = Check.loaded("chain 1;masses " + c[1] + ";strike 0 " + c[0] + ";");
            Check.due("the energy of " + c[0] + " with weight " + c[1], c[2], () -> x.account(6));
        }
    }

    private static void dividedByItself() {
        SpringChain x = Check.loaded("chain 12;strike 0 4;strike 5 -4;strike 11 4;");
        Check.due("three masses of 16 / 20", 0, () -> x.account(6));
        SpringChain y = Check.loaded("chain 2;pluck 0 1;");
        Check.due("two springs of 100 / 200", 0, () -> y.account(7));
        SpringChain z = Check.loaded("chain 2;spring 1 999;pluck 0 1;end right -2;");
        Check.due("0 + 4 + 2", 6, () -> z.account(7));
        SpringChain none = Check.loaded("chain 2;springs 0;pluck 0 10000;end left -100000;");
        Check.due("springs of stiffness 0", 0, () -> none.account(7));
    }

    private static void energyOfBroken() {
        SpringChain x = Check.loaded("chain 1;masses 99;spring 0 100 limit 9;spring 1 0;end left -20;");
        Check.due("whole", 200, () -> x.account(7));
        x.pass(1);
        Check.due("broken", 0, () -> x.account(7));
        x.mend(0);
        Check.due("mended", 200, () -> x.account(7));
    }

    private static void energiesBeyondInt() {
        SpringChain x = Check.loaded("chain 12;masses 1;strike 0 100000;strike 11 -100000;");
        Check.due("two masses", 10000000000L, () -> x.account(6));
        SpringChain most = pumped(1);
        Check.due("the greatest momentum", 10000000000000000L / 198, () -> most.account(6));
        SpringChain far = apart(1);
        Check.due("the greatest stretch", 999L * 2000000 * 2000000 / 200 + 2 * (999L * 1100000 * 1100000 / 200),
                () -> far.account(7));
    }

    private static void ticksOfPass() {
        SpringChain x = Check.loaded("chain 1;masses 1;springs 0;strike 0 1;");
        Check.due("1", 0, () -> x.pass(1));
        Check.due("one tick", 1, () -> x.mass(0, 1));
        Check.due("50", 0, () -> x.pass(50));
        Check.due("51 ticks", 51, () -> x.mass(0, 1));
    }

    private static void ticksOutOfRange() {
        Check.range("chain 2;pluck 0 8;", "pass", 1, 50, ILLEGAL, SpringChain::pass);
    }

    private static void howManyBroke() {
        StringBuilder text = new StringBuilder("chain 12;springs 0;end right 1300;");
        for (int spring = 0; spring <= 12; spring++) {
            text.append("spring ").append(spring).append(" 0limit 99;");
        }
        SpringChain x = Check.loaded(text.toString());
        for (int mass = 0; mass < 12; mass++) {
            x.pluck(mass, 100 * mass + 100);
        }
        Check.due("all 13 in one tick", 13, () -> x.pass(1));
        Check.due("broken", 13, () -> x.state(2));
        Check.due("none is left", 0, () -> x.pass(50));
        Check.due("mend", 12, () -> x.mend(7));
        Check.due("a mended one once more", 1, () -> x.pass(50));
        SpringChain y = Check.loaded("chain 1;masses 1;springs 0;spring 0 0limit 10;spring 1 0limit 1000;strike 0 40;");
        Check.due("in several of its ticks", 2, () -> y.pass(50));
        Check.due("none", 0, () -> new SpringChain().pass(50));
    }

    private static void call512() {
        SpringChain x = new SpringChain();
        for (int k = 0; k < 510; k++) {
            x.pass(50);
        }
        Check.due("call 511", 0, () -> x.pass(50));
        Check.due("call 512", 25550, () -> x.state(0));
    }
}
