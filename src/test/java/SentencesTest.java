import java.lang.reflect.Method;
import java.lang.reflect.Modifier;
import java.util.Arrays;

/**
 * What the document says plainly, without a boundary: a test of its own for each sentence that the
 * BoundsOf...Tests leave. Most ask one chain, whose ticks are worked out by hand.
 */
public final class SentencesTest {
    private static final Class<? extends RuntimeException> ILLEGAL = IllegalArgumentException.class;
    private static final Class<? extends RuntimeException> INDEX = IndexOutOfBoundsException.class;

    /*
     * Weights 5, 8, 5; displacements 100, 0, -60; momenta 0, -75, 0.
     * Tick 0: pulls 32, -250, -24, 20; momenta -282, 151, 44, by the impulse 77; damping takes -28, 15, 7;
     * momenta -254, 136, 70; displacements 50, 17, -46; stretches 30, -33, -63, 36: spring 3 breaks.
     * Tick 1: pulls 12, -82, -25, 0; momenta -348, 193, 95; damping takes -34, 19, 9; momenta -314, 174,
     * 86; displacements -12, 38, -29; stretches -32, 50, -67, 19.
     */
    private static final String WORKED = "chain 3;masses 5;mass 1 8;springs 40;spring 1 250 limit 90;spring 3 40 limit"
            + " 30;damp 100;pluck 0 100;pluck 2 -60;strike 1 -75;end left 20;end right -10;impulse 2 0 -9;impulse 0 2 33;";

    public static void main(String[] args) {
        conventions();
        setupText();
        telling();
        foretelling();
        changing();
        checksums();
        Check.end();
    }

    private static SpringChain worked(int ticks) {
        SpringChain x = Check.loaded(WORKED);
        if (ticks > 0) {
            x.pass(ticks);
        }
        return x;
    }

    /** The answers to 0, 1, 2 .., joined by spaces. */
    private static String row(int count, Check.Question question) {
        StringBuilder told = new StringBuilder();
        for (int k = 0; k < count; k++) {
            told.append(k == 0 ? "" : " ").append(question.ask(k));
        }
        return told.toString();
    }

    private static void conventions() {
        Check.holds(15, "All numbers are integers, except where double is named.", () -> {
            for (Method m : SpringChain.class.getDeclaredMethods()) {
                if (!m.getName().equals("centre") && Modifier.isPublic(m.getModifiers())) {
                    Check.due(m.getName() + " answers a whole number", true,
                            () -> Arrays.asList(int.class, long.class).contains(m.getReturnType()));
                }
            }
            Check.due("centre", 200.0 / 18.0, () -> worked(0).centre());
        });
        Check.holds(8, "it is whole or broken.", () -> {
            SpringChain x = worked(0);
            Check.due("ahead of the tick", "0 0 0 0", () -> row(4, k -> x.spring(k, 2)));
            x.pass(1);
            Check.due("behind the tick", "0 0 0 1", () -> row(4, k -> x.spring(k, 2)));
            x.mend(3);
            Check.due("mended", "0 0 0 0", () -> row(4, k -> x.spring(k, 2)));
        });
        Check.holds(8, "The stretch of a spring is the displacement of what is on its right less that of what is on its"
                + " left.", () -> {
            Check.due("stretches", "80 -100 -60 50", () -> row(4, k -> worked(0).spring(k, 3)));
            Check.due("stretches then", "30 -33 -63 36", () -> row(4, k -> worked(1).spring(k, 3)));
        });
        Check.holds(16, "In a tick this is done, with t the time:", () -> {
            SpringChain x = worked(1);
            Check.due("displacements", "50 17 -46", () -> row(3, k -> x.mass(k, 1)));
            Check.due("momenta", "-254 136 70", () -> row(3, k -> x.mass(k, 2)));
            x.pass(1);
            Check.due("displacements then", "-12 38 -29", () -> row(3, k -> x.mass(k, 1)));
            Check.due("momenta then", "-314 174 86", () -> row(3, k -> x.mass(k, 2)));
        });
    }

    private static void setupText() {
        Check.holds(3, "statement = \"mass\" number number | \"masses\" number | \"spring\" number number [ \"limit\""
                + " number ] | \"springs\" number | \"damp\" number | \"pluck\" number sign | \"strike\" number sign |"
                + " \"end\" ( \"left\" | \"right\" ) sign | \"impulse\" number number sign", SentencesTest::statements);
        Check.holds(3, "sign = [ \"-\" ] number", SentencesTest::signs);
        Check.holds(3, "The number of chain is how many masses there are.", () -> {
            for (int n = 1; n <= 12; n++) {
                int masses = n;
                SpringChain x = new SpringChain();
                Check.due("load", n, () -> Check.load(x, "chain " + masses + ";"));
                Check.due("masses", n, () -> x.state(1));
                Check.row("weight", k -> x.mass(k, 0), INDEX, fill(n, 10));
                Check.row("stiffness", k -> x.spring(k, 0), INDEX, fill(n + 1, 100));
            }
        });
        Check.holds(3, "Those of mass are a mass and its weight,", () -> Check.due("weights", "10 10 7 10",
                () -> row(4, k -> Check.loaded("chain 4;mass 2 7;").mass(k, 0))));
        Check.holds(3, "that of masses is the weight of all;", () -> Check.due("weights", "7 7 7 7",
                () -> row(4, k -> Check.loaded("chain 4;masses 7;").mass(k, 0))));
        Check.holds(3, "those of spring are a spring and its stiffness,", () -> {
            SpringChain x = Check.loaded("chain 4;spring 2 7 limit 3;");
            Check.due("stiffnesses", "100 100 7 100 100", () -> row(5, k -> x.spring(k, 0)));
            Check.due("limits", "0 0 3 0 0", () -> row(5, k -> x.spring(k, 1)));
        });
        Check.holds(3, "that of end its displacement;", () -> {
            SpringChain x = Check.loaded("chain 4;end right 6;end left -5;");
            Check.due("ends", "-5 6", () -> row(2, k -> x.state(3 + k)));
        });
        Check.holds(3, "those of impulse are its tick, its mass and its strength.", () -> {
            SpringChain x = Check.loaded("chain 4;impulse 1 2 3;");
            Check.due("the impulse", "1 2 3", () -> row(3, k -> x.waiting(0, k)));
        });
        Check.holds(3, "`SYNTAX_ERROR = -2`: Error code of load: the text does not follow the grammar.",
                () -> Check.error(SpringChain.SYNTAX_ERROR, "chain 2;pluck ^;"));
        Check.holds(3, "`OUT_OF_RANGE = -3`: Error code of load: a number is not allowed.",
                () -> Check.error(SpringChain.OUT_OF_RANGE, "chain 2;pluck ^2 1;"));
        Check.holds(3, "`REPEATED = -4`: Error code of load: a mass is plucked or struck twice.", () -> {
            Check.error(SpringChain.REPEATED, "chain 2;pluck 1 1;pluck ^1 1;");
            Check.error(SpringChain.REPEATED, "chain 2;strike 1 1;strike ^1 1;");
        });
        Check.holds(3, "`TOO_MANY = -5`: Error code of load: too many impulses.",
                () -> Check.error(SpringChain.TOO_MANY, "chain 2;" + "impulse 0 0 1;".repeat(16) + "^impulse 0 0 1;"));
    }

    private static Object[] fill(int n, int number) {
        Object[] row = new Object[n];
        Arrays.fill(row, number);
        return row;
    }

    /** Each form is read whole; with a part left out or one too many it is not. */
    private static void statements() {
        String[] forms = {"mass 1 2", "masses 2", "spring 1 2", "spring 1 2 limit 3", "springs 2", "damp 2", "pluck 1 2",
            "strike 1 2", "end left 2", "end right 2", "impulse 1 1 2"};
        for (String form : forms) {
            Check.due("load of " + form, 2, () -> Check.load(new SpringChain(), "chain 2;" + form + ";"));
            Check.error(SpringChain.SYNTAX_ERROR, "chain 2;" + form + " ^4;");
            Check.error(SpringChain.SYNTAX_ERROR, "chain 2;" + form + " ^left;");
            Check.error(SpringChain.SYNTAX_ERROR, "chain 2;" + form + " ^-4;");
            Check.error(SpringChain.SYNTAX_ERROR, "chain 2;" + form + ";^;");
            String cut = form.substring(0, form.lastIndexOf(' '));
            Check.error(SpringChain.SYNTAX_ERROR, "chain 2;" + cut + "^;");
            Check.error(SpringChain.SYNTAX_ERROR, "chain 2;" + cut + " ^x;");
        }
    }

    private static void signs() {
        for (String signed : new String[] {"pluck 0 ", "strike 0 ", "end left ", "end right ", "impulse 0 0 "}) {
            Check.due("load with -5", 1, () -> Check.load(new SpringChain(), "chain 1;" + signed + "-5;"));
            Check.due("load with 5", 1, () -> Check.load(new SpringChain(), "chain 1;" + signed + "5;"));
            Check.error(SpringChain.SYNTAX_ERROR, "chain 1;" + signed + "-^-5;");
            Check.error(SpringChain.SYNTAX_ERROR, "chain 1;" + signed + "^+5;");
            Check.error(SpringChain.SYNTAX_ERROR, "chain 1;" + signed + "-^;");
            Check.error(SpringChain.SYNTAX_ERROR, "chain 1;" + signed + "5^-;");
        }
        for (String plain : new String[] {"mass 0 ", "masses ", "spring 0 ", "spring 0 1 limit ", "springs ", "damp "}) {
            Check.error(SpringChain.SYNTAX_ERROR, "chain 1;" + plain + "^-5;");
        }
        Check.error(SpringChain.SYNTAX_ERROR, "chain ^-1;");
        Check.error(SpringChain.SYNTAX_ERROR, "chain 1;pluck ^-0 5;");
        Check.error(SpringChain.SYNTAX_ERROR, "chain 1;impulse ^-0 0 5;");
    }

    private static void telling() {
        Check.holds(5, "0 the time, 1 masses,", () -> {
            Check.due("time and masses", "0 3", () -> row(2, k -> worked(0).state(k)));
            Check.due("time and masses then", "2 3", () -> row(2, k -> worked(2).state(k)));
        });
        Check.holds(5, "5 the damping,", () -> Check.due("damping", 100, () -> worked(0).state(5)));
        Check.holds(5, "7 the pattern, 8 the nodes,", () -> {
            Check.due("of 100, 0, -60", "19 1", () -> row(2, k -> worked(0).state(7 + k)));
            Check.due("of 50, 17, -46", "22 1", () -> row(2, k -> worked(1).state(7 + k)));
            Check.due("of -12, 38, -29", "23 2", () -> row(2, k -> worked(2).state(7 + k)));
        });
        Check.holds(5, "Throws `IllegalArgumentException` if what is out of range", () -> {
            SpringChain x = worked(1);
            Check.row("state", x::state, ILLEGAL, 1, 3, 1, 20, -10, 100, 1, 22, 1, 1, 0, 0);
        });
        Check.holds(6, "1 what the left end gave, 2 what the right end gave, 3", () -> {
            Check.due("at first", "0 0 -75", () -> row(3, k -> worked(0).account(1 + k)));
            Check.due("behind one tick", "-32 20 -42", () -> row(3, k -> worked(1).account(1 + k)));
            Check.due("behind two", "-44 20 -42", () -> row(3, k -> worked(2).account(1 + k)));
        });
        Check.holds(6, "5 what was lost, 6 the energy of all masses, 7 that of all springs", () -> {
            Check.due("at first", "0 351 15000", () -> row(3, k -> worked(0).account(5 + k)));
            Check.due("behind one tick", "0 8097 2334", () -> row(3, k -> worked(1).account(5 + k)));
        });
        Check.holds(6, "Returns this number.", () -> {
            SpringChain x = worked(1);
            Check.row("account", x::account, ILLEGAL, -48, -32, 20, -42, -6, 0, 8097, 2334);
        });
        Check.holds(7, "0 its weight, 1 its displacement, 2 its momentum, 3 momentum / weight", () -> {
            SpringChain x = worked(1);
            Check.row("mass 0", what -> x.mass(0, what), ILLEGAL, 5, 50, -254, -50);
            Check.row("mass 1", what -> x.mass(1, what), ILLEGAL, 8, 17, 136, 17);
            Check.row("mass 2", what -> x.mass(2, what), ILLEGAL, 5, -46, 70, 14);
        });
        Check.holds(8, "0 its stiffness, 1 its limit,", () -> {
            SpringChain x = worked(1);
            Check.row("spring 0", what -> x.spring(0, what), ILLEGAL, 40, 0, 0, 30, 12);
            Check.row("spring 1", what -> x.spring(1, what), ILLEGAL, 250, 90, 0, -33, -82);
        });
        Check.holds(8, "3 its stretch, 4 its pull", () -> {
            SpringChain x = worked(1);
            Check.row("spring 2", what -> x.spring(2, what), ILLEGAL, 40, 0, 0, -63, -25);
            Check.row("spring 3", what -> x.spring(3, what), ILLEGAL, 40, 30, 1, 36, 0);
        });
        Check.holds(9, "`k`: a different pattern that is kept, from 0 in the order in which they were noted first",
                () -> Check.due("patterns", "22 23", () -> row(2, k -> worked(2).noted(k, 0))));
        Check.holds(9, "0 the pattern, 1 how often it was noted", () -> {
            SpringChain x = Check.loaded("chain 2;springs 0;pluck 0 1;");
            x.pass(3);
            Check.row("the pattern", what -> x.noted(0, what), ILLEGAL, 1, 3);
        });
        Check.holds(10, "`k`: an impulse that waits, from 0", () -> {
            Check.due("at first", "0 2", () -> row(2, k -> worked(0).waiting(k, 0)));
            Check.due("then", "2", () -> row(1, k -> worked(1).waiting(k, 0)));
        });
        Check.holds(10, "0 its tick, 1 its mass, 2 its strength", () -> {
            SpringChain x = worked(0);
            Check.row("impulse 0", what -> x.waiting(0, what), ILLEGAL, 0, 2, 33);
            Check.row("impulse 1", what -> x.waiting(1, what), ILLEGAL, 2, 0, -9);
        });
        Check.holds(14, "Returns the number of pieces.", () -> {
            Check.due("whole", 1, () -> worked(0).pieces());
            Check.due("parted", 2, () -> Check.loaded("chain 3;spring 1 0;").pieces());
        });
        Check.holds(15, "both converted to double and divided.",
                () -> Check.due("centre", 156.0 / 18.0, () -> worked(1).centre()));
    }

    private static void foretelling() {
        Check.holds(11, "0 its displacement then, 1 its momentum then,", () -> {
            SpringChain x = worked(0);
            Check.row("of mass 0 in one tick", what -> x.foretold(1, 0, what), ILLEGAL, 50, -254, 50, 1, 1);
            Check.row("of mass 0 in two ticks", what -> x.foretold(2, 0, what), ILLEGAL, -12, -314, 50, 1, 2);
            Check.row("of mass 1 in two ticks", what -> x.foretold(2, 1, what), ILLEGAL, 38, 174, 38, 1, 2);
            Check.row("of mass 2 in two ticks", what -> x.foretold(2, 2, what), ILLEGAL, -29, 86, 46, 1, 2);
            Check.due("nothing passed", 0, () -> x.state(0));
        });
        // A mass of weight 1 between two springs of stiffness 50 is pulled back by what it is away.
        Check.holds(12, "Foretells the period of a mass:", () -> {
            SpringChain x = Check.loaded("chain 1;masses 1;springs 50;pluck 0 200;");
            Check.due("displacements", "0 -200 -200 0 200 200 0 -200 -200 0 200 200",
                    () -> row(12, k -> x.foretold(k + 1, 0, 0)));
            Check.due("period", 6, () -> x.period(0, 50));
        });
        Check.holds(13, "Returns in how many ticks a spring breaks, if only ticks pass;", () -> {
            Check.due("of the next", 1, () -> worked(0).breaksIn(200));
            Check.due("of one that comes later", 3, () -> Check.loaded("chain 1;masses 1;springs 0;spring 0 0 limit 5;"
                    + "strike 0 2;").breaksIn(200));
        });
    }

    private static void changing() {
        Check.holds(16, "Lets ticks pass.", () -> {
            SpringChain x = worked(0);
            Check.due("two ticks", 1, () -> x.pass(2));
            Check.due("the time", 2, () -> x.state(0));
            Check.due("the sum of the momenta", -54L, () -> x.account(0));
        });
        Check.holds(17, "Plucks a mass:", () -> {
            SpringChain x = worked(0);
            Check.due("pluck", -60, () -> x.pluck(2, 31));
            Check.due("displacements", "100 0 31", () -> row(3, k -> x.mass(k, 1)));
        });
        Check.holds(18, "Strikes a mass:", () -> {
            SpringChain x = worked(0);
            Check.due("strike", -62, () -> x.strike(1, 13));
            Check.due("momenta", "0 -62 0", () -> row(3, k -> x.mass(k, 2)));
            Check.due("given", -62L, () -> x.account(3));
        });
        Check.holds(19, "Tells an impulse.", () -> {
            SpringChain x = worked(0);
            Check.due("impulse", 3, () -> x.impulse(1, 1, 4));
            Check.due("ticks", "0 1 2", () -> row(3, k -> x.waiting(k, 0)));
        });
        Check.holds(20, "Sets the stiffness of a spring.", () -> {
            SpringChain x = worked(0);
            Check.due("stiffen", 250, () -> x.stiffen(1, 7));
            Check.due("stiffnesses", "40 7 40 40", () -> row(4, k -> x.spring(k, 0)));
            Check.due("limits", "0 90 0 30", () -> row(4, k -> x.spring(k, 1)));
        });
        Check.holds(21, "Mends a broken spring.", () -> {
            SpringChain x = worked(1);
            Check.due("mend", 0, () -> x.mend(3));
            Check.due("spring 3", "40 30 0 36 14", () -> row(5, k -> x.spring(3, k)));
        });
        Check.holds(22, "Moves an end.", () -> {
            SpringChain x = worked(0);
            Check.due("the right end", -10, () -> x.move(true, 55));
            Check.due("the left end", 20, () -> x.move(false, -44));
            Check.due("ends", "-44 55", () -> row(2, k -> x.state(3 + k)));
        });
        Check.holds(23, "Undoes the latest change that is not final and has not been undone.", () -> {
            SpringChain x = worked(1);
            Check.due("undo", 1, x::undo);
            Check.due("displacements", "100 0 -60", () -> row(3, k -> x.mass(k, 1)));
            Check.due("undo of the load", 0, x::undo);
            Check.due("masses", 1, () -> x.state(1));
        });
    }

    private static void checksums() {
        Check.holds(24, "Computes a checksum.",
                () -> Check.due("of a new object", sum(0, 1, 0, 0, 0, 0, 0, 0, 0, 0, 1, 0, 0, 0, 0, 0, 0, 0, 0, 0, 10, 0, 0,
                        0, 100, 0, 0, 0, 0, 100, 0, 0, 0, 0), () -> new SpringChain().checksum()));
        Check.holds(24, "each number n in the following order replaces it by 31 * checksum + n,", () -> Check.due(
                "of the worked chain", sum(1, 3, 1, 20, -10, 100, 1, 22, 1, 1, 0, 0,
                        -48, -32, 20, -42, -6, 0, 8097, 2334,
                        5, 50, -254, -50, 8, 17, 136, 17, 5, -46, 70, 14,
                        40, 0, 0, 30, 12, 250, 90, 0, -33, -82, 40, 0, 0, -63, -25, 40, 30, 1, 36, 0,
                        22, 1), () -> worked(1).checksum()));
        Check.holds(24, "state(0) to state(11); account(0) to account(7);", () -> Check.due("behind two ticks",
                sum(2, 3, 1, 20, -10, 100, 1, 23, 2, 2, 0, 1,
                        -54, -44, 20, -42, -12, 0, 9859 + 1892 + 739, 204 + 3125 + 897,
                        5, -12, -314, -62, 8, 38, 174, 21, 5, -29, 86, 17,
                        40, 0, 0, -32, -12, 250, 90, 0, 50, 125, 40, 0, 0, -67, -26, 40, 30, 1, 19, 0,
                        22, 1, 23, 1), () -> worked(2).checksum()));
        Check.holds(24, "Returns the checksum.", () -> {
            SpringChain x = worked(2);
            long first = x.checksum();
            Check.due("asked again", first, x::checksum);
            Check.due("of the same chain", first, () -> worked(2).checksum());
        });
    }

    private static long sum(long... numbers) {
        long sum = 0;
        for (long n : numbers) {
            sum = 31 * sum + n;
        }
        return sum;
    }
}
