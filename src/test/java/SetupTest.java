/** Promises 1 to 4: a new object, the input buffer, the setup text and its errors. */
public final class SetupTest {
    private static final int SYNTAX = SpringChain.SYNTAX_ERROR;
    private static final int RANGE = SpringChain.OUT_OF_RANGE;
    private static final Class<? extends RuntimeException> ILLEGAL = IllegalArgumentException.class;

    public static void main(String[] args) {
        newObject();
        append();
        load();
        nothingIsLeftOfWhatWasForetold();
        defaults();
        laterCountsAhead();
        spaces();
        numbersOfAnyLength();
        syntaxOfTheHead();
        syntaxOfStatements();
        ranges();
        repeated();
        tooMany();
        firstErrorCounts();
        errorOffset();
        Check.end();
    }

    private static void newObject() {
        SpringChain x = new SpringChain();
        Check.row("new: state", x::state, ILLEGAL, 0, 1, 0, 0, 0, 0, 0, 0, 0, 0, 1, 0);
        Check.row("new: account", x::account, ILLEGAL, 0, 0, 0, 0, 0, 0, 0, 0);
        Check.row("new: mass", k -> x.mass(0, k), ILLEGAL, 10, 0, 0, 0);
        Check.row("new: spring 0", k -> x.spring(0, k), ILLEGAL, 100, 0, 0, 0, 0);
        Check.row("new: spring 1", k -> x.spring(1, k), ILLEGAL, 100, 0, 0, 0, 0);
        Check.due("new: errorOffset", -1, x::errorOffset);
        Check.due("new: undo", -1, x::undo);
        Check.throwsDue("new: the buffer is empty", ILLEGAL, () -> x.load(1));
        Check.due("new: append", 20, () -> x.append(0, 0, 0, 0, 0));
        Check.due("as by the text", Check.loaded("chain 1;").checksum(), x::checksum);
    }

    private static void append() {
        SpringChain x = new SpringChain();
        // "chain 3;" and 12 spaces, the most significant byte first
        Check.due("append", 20, () -> x.append(0x63686169, 0x6e20333b, 0x20202020, 0x20202020, 0x20202020));
        Check.due("load", 3, () -> x.load(20));
        for (int length = 20; length <= 500; length += 20) {
            Check.due("append to " + length, length, () -> x.append(0x20202020, 0x20202020, 0x20202020, 0x20202020,
                    0x6461206d));
        }
        Check.due("append beyond 500", -1, () -> x.append(-1, -1, -1, -1, -1));
        Check.due("append beyond 500 again", -1, () -> x.append(-1, -1, -1, -1, -1));
        Check.throwsDue("the buffer is unchanged", ILLEGAL, () -> x.load(501));
        Check.due("the whole buffer", SYNTAX, () -> x.load(500));
        Check.due("its first word", 16, x::errorOffset);
        Check.due("append behind load", 20, () -> x.append(-1, Integer.MIN_VALUE, 0, 0, 0));
        Check.due("a byte above 127", SYNTAX, () -> x.load(20));

        SpringChain full = new SpringChain();
        String text = "chain 12;" + " ".repeat(471) + "mass 11 99;" + " ".repeat(9);
        Check.due("a text of 500 bytes", 12, () -> Check.load(full, text));
        Check.due("its last statement", 99, () -> full.mass(11, 0));
    }

    private static void load() {
        SpringChain x = new SpringChain();
        Check.put(x, "chain 2;chain 3;");
        Check.throwsDue("load(-1)", ILLEGAL, () -> x.load(-1));
        Check.throwsDue("load(21)", ILLEGAL, () -> x.load(21));
        Check.throwsDue("load(most)", ILLEGAL, () -> x.load(Integer.MAX_VALUE));
        Check.due("the buffer is unchanged and its first bytes are read", 2, () -> x.load(8));
        Check.throwsDue("the buffer is empty", ILLEGAL, () -> x.load(1));
        Check.put(x, "chain 5;");
        Check.due("load(0)", SYNTAX, () -> x.load(0));
        Check.throwsDue("the buffer is empty again", ILLEGAL, () -> x.load(1));

        SpringChain used = Check.loaded("chain 2;spring 0 9 limit 3;damp 7;pluck 1 40;strike 0 90;end left 5;"
                + "end right 6;impulse 3 1 4;impulse 0 1 4;");
        used.pass(2);
        used.foretold(200, 0, 0);
        Check.due("a successful load replaces all", 1, () -> Check.load(used, "chain 1;"));
        Check.due("as new", new SpringChain().checksum(), used::checksum);
        Check.due("masses", 1, () -> used.state(1));
        Check.due("undo of the load", 2, used::undo);
        Check.due("back", 2, () -> used.state(0));
    }

    private static void nothingIsLeftOfWhatWasForetold() {
        SpringChain x = Check.loaded("chain 1;spring 0 999 limit 90000;pluck 0 -10000;damp 9;end left 100000;");
        Check.due("a spring breaks", 1, () -> x.foretold(200, 0, 3));
        Check.due("load", 2, () -> Check.load(x, "chain 2;"));
        Check.due("as by the text", Check.loaded("chain 2;").checksum(), x::checksum);

        SpringChain y = Check.loaded("chain 1;masses 99;springs 999;damp 1;end left 100000;end right 100000;strike 0 5;");
        for (int k = 0; k < 50; k++) {
            y.pluck(0, -10000);
            y.pass(1);
        }
        Check.due("something was lost", true, () -> y.account(5) > 0);
        Check.due("far", 1000000, () -> y.foretold(200, 0, 2));
        Check.due("load", 2, () -> Check.load(y, "chain 2;"));
        Check.due("as by the text", Check.loaded("chain 2;").checksum(), y::checksum);
    }

    private static void defaults() {
        SpringChain x = Check.loaded("chain 12;");
        for (int k = 0; k < 12; k++) {
            int mass = k;
            Check.row("mass " + k, what -> x.mass(mass, what), ILLEGAL, 10, 0, 0, 0);
        }
        for (int k = 0; k < 13; k++) {
            int spring = k;
            Check.row("spring " + k, what -> x.spring(spring, what), ILLEGAL, 100, 0, 0, 0, 0);
        }
        Check.row("state", x::state, ILLEGAL, 0, 12, 0, 0, 0, 0, 0, 0, 0, 0, 12, 0);
    }

    private static void laterCountsAhead() {
        SpringChain x = Check.loaded("chain 3;mass 1 5;masses 8;mass 2 99;spring 1 999 limit 99999;springs 4;"
                + "spring 2 0 limit 7;spring 2 6;spring 3 7 limit 0;end left 9;end left -100000;end right 100000;damp 999;");
        Check.due("mass 0", 8, () -> x.mass(0, 0));
        Check.due("masses counts ahead of mass", 8, () -> x.mass(1, 0));
        Check.due("mass counts ahead of masses", 99, () -> x.mass(2, 0));
        Check.due("springs counts ahead of spring", 4, () -> x.spring(1, 0));
        Check.due("springs leaves the limit", 99999, () -> x.spring(1, 1));
        Check.due("the later spring", 6, () -> x.spring(2, 0));
        Check.due("without limit it is 0", 0, () -> x.spring(2, 1));
        Check.due("the last spring", 7, () -> x.spring(3, 0));
        Check.due("the later end", -100000, () -> x.state(3));
        Check.due("the right end", 100000, () -> x.state(4));
        Check.due("damp", 999, () -> x.state(5));

        SpringChain y = Check.loaded("chain 2;strike 1 -100000;strike 0 100000;pluck 0 -10000;pluck 1 10000;"
                + "impulse 9999 1 -9999;impulse 0 0 9999;");
        Check.due("struck", 100000, () -> y.mass(0, 2));
        Check.due("struck 1", -100000, () -> y.mass(1, 2));
        Check.due("plucked", -10000, () -> y.mass(0, 1));
        Check.due("plucked 1", 10000, () -> y.mass(1, 1));
        Check.due("impulses", 2, () -> y.state(6));
        Check.due("the text's strikes are given", 0, () -> y.account(3));
        Check.due("a strike is given", -77, () -> Check.loaded("chain 2;strike 1 -77;").account(3));
    }

    private static void spaces() {
        SpringChain x = Check.loaded("  chain   2  ;  pluck 0  -  5 ; mass0 3;mass 1 4 ;end left-7;end right - 8;  "
                + "spring 0 1limit2;spring1 5;damp3;impulse 4 1-6;strike 0-9;   ");
        Check.due("pluck", -5, () -> x.mass(0, 1));
        Check.due("mass0", 3, () -> x.mass(0, 0));
        Check.due("left", -7, () -> x.state(3));
        Check.due("right", -8, () -> x.state(4));
        Check.due("limit", 2, () -> x.spring(0, 1));
        Check.due("spring1", 5, () -> x.spring(1, 0));
        Check.due("damp", 3, () -> x.state(5));
        Check.due("impulse", -6, () -> x.waiting(0, 2));
        Check.due("strike", -9, () -> x.mass(0, 2));
    }

    private static void numbersOfAnyLength() {
        SpringChain x = Check.loaded("chain " + "0".repeat(40) + "2;pluck 0 -00010000;pluck 01 -0;damp 000;");
        Check.due("pluck", -10000, () -> x.mass(0, 1));
        Check.due("a zero with a sign", 0, () -> x.mass(1, 1));
        Check.error(RANGE, "chain ^4294967297;");
        Check.error(RANGE, "chain ^18446744073709551617;");
        Check.error(RANGE, "chain 2;mass 0 ^" + "9".repeat(200) + ";");
        Check.error(RANGE, "chain 2;pluck 0 ^-" + "4294967296".repeat(9) + ";");
        Check.error(RANGE, "chain 2;pluck 0 ^- 10001;");
    }

    private static void syntaxOfTheHead() {
        Check.error(SYNTAX, "^");
        Check.error(SYNTAX, "   ^");
        Check.error(SYNTAX, "^chains 1;");
        Check.error(SYNTAX, "^chai");
        Check.error(SYNTAX, "^Chain 1;");
        Check.error(SYNTAX, "  ^mass 0 1;");
        Check.error(SYNTAX, "chain^");
        Check.error(SYNTAX, "chain  ^");
        Check.error(SYNTAX, "chain ^;");
        Check.error(SYNTAX, "chain ^-1;");
        Check.error(SYNTAX, "chain 1^");
        Check.error(SYNTAX, "chain 1 ^");
        Check.error(SYNTAX, "chain 1 ^2;");
        Check.error(SYNTAX, "chain 1^x;");
        Check.error(SYNTAX, "chain^\t1;");
        Check.error(SYNTAX, "chain 1;^;");
        Check.error(SYNTAX, "chain 1;^chain 1;");
        Check.error(SYNTAX, "^\u0000chain 1;");
        Check.error(SYNTAX, "chain 1;^\n");
        Check.error(SYNTAX, "chain 1;^\u00ff");
    }

    private static void syntaxOfStatements() {
        for (String word : new String[] {"mass", "masses", "spring", "springs", "damp", "pluck", "strike", "end",
            "impulse"}) {
            Check.error(SYNTAX, "chain 2;" + word + "^");
            Check.error(SYNTAX, "chain 2;" + word + " ^");
            Check.error(SYNTAX, "chain 2;" + word + "^;");
            Check.error(SYNTAX, "chain 2;^" + word + "x 0 0;");
            Check.error(SYNTAX, "chain 2;^" + word.substring(0, word.length() - 1) + "q 0 0;");
            Check.error(SYNTAX, "chain 2;" + word + " ^x;");
        }
        for (String two : new String[] {"mass 0", "spring 0", "pluck 0", "strike 0", "end left", "end right",
            "impulse 0 0", "impulse 0", "spring 0 0 limit"}) {
            Check.error(SYNTAX, "chain 2;" + two + "^");
            Check.error(SYNTAX, "chain 2;" + two + "^;");
            Check.error(SYNTAX, "chain 2;" + two + "  ^x;");
        }
        for (String whole : new String[] {"mass 0 1", "masses 1", "spring 0 0", "spring 0 0 limit 1", "springs 1",
            "damp 1", "pluck 0 -1", "strike 0 1", "end left 1", "end right -1", "impulse 0 0 1"}) {
            Check.error(SYNTAX, "chain 2;" + whole + "^");
            Check.error(SYNTAX, "chain 2;" + whole + "  ^");
            Check.error(SYNTAX, "chain 2;" + whole + " ^1;");
            Check.error(SYNTAX, "chain 2;" + whole + "^x;");
            Check.error(SYNTAX, "chain 2;" + whole + " ^-;");
        }
        for (String none : new String[] {"mass ", "mass 0 ", "masses ", "spring ", "spring 0 ", "spring 0 1 limit ",
            "springs ", "damp ", "impulse ", "impulse 0 "}) {
            Check.error(SYNTAX, "chain 2;" + none + "^-0;");
        }
        for (String sign : new String[] {"pluck 0 ", "strike 0 ", "end left ", "end right ", "impulse 0 0 "}) {
            Check.error(SYNTAX, "chain 2;" + sign + "-^");
            Check.error(SYNTAX, "chain 2;" + sign + "- ^;");
            Check.error(SYNTAX, "chain 2;" + sign + "-^-1;");
            Check.error(SYNTAX, "chain 2;" + sign + "^+1;");
        }
        Check.error(SYNTAX, "chain 2;spring 0 1 ^limits 1;");
        Check.error(SYNTAX, "chain 2;spring 0 1 limit 1 ^limit 1;");
        Check.error(SYNTAX, "chain 2;springs 1 ^limit 1;");
        Check.error(SYNTAX, "chain 2;^dampa 1;");
        Check.error(SYNTAX, "chain 2;^dampz 1;");
        Check.error(SYNTAX, "chain 2;^`;");
        Check.error(SYNTAX, "chain 2;damp^{");
        Check.error(SYNTAX, "chain 2;damp 1^:;");
        Check.error(SYNTAX, "chain 2;damp 1^/;");
        Check.error(SYNTAX, "chain 2;end ^lefts 1;");
        Check.error(SYNTAX, "chain 2;end ^leftright 1;");
        Check.error(SYNTAX, "chain 2;^endleft 1;");
        Check.error(SYNTAX, "chain 2;end ^1;");
        Check.error(SYNTAX, "chain 2;damp 5;masses 1;^damp 5;");
        Check.error(SYNTAX, "chain 2;damp 5; ^damp 1000;");
        Check.error(SYNTAX, "chain 2;damp 5; ^damp");
    }

    private static void ranges() {
        Check.error(RANGE, "chain ^0;");
        Check.error(RANGE, "chain ^13;");
        Check.loaded("chain 12;");
        bounds("mass ^ 5;", 0, 1);
        bounds("mass 1 ^;", 1, 99);
        bounds("masses ^;", 1, 99);
        bounds("spring ^ 5;", 0, 2);
        bounds("spring 1 ^;", 0, 999);
        bounds("spring 1 5 limit ^;", 0, 99999);
        bounds("springs ^;", 0, 999);
        bounds("damp ^;", 0, 999);
        bounds("pluck ^ 5;", 0, 1);
        bounds("pluck 1 ^;", -10000, 10000);
        bounds("strike ^ 5;", 0, 1);
        bounds("strike 1 ^;", -100000, 100000);
        bounds("end left ^;", -100000, 100000);
        bounds("end right ^;", -100000, 100000);
        bounds("impulse ^ 1 1;", 0, 9999);
        bounds("impulse 1 ^ 1;", 0, 1);
        bounds("impulse 1 1 ^;", -9999, 9999);
        Check.error(RANGE, "chain 2;impulse 1 1 ^0;");
        Check.error(RANGE, "chain 2;impulse 1 1 ^000;");
        Check.error(RANGE, "chain 2;impulse 1 1 ^-0;");
        Check.error(RANGE, "chain 2;impulse 1 1  ^- 0;");
    }

    /** With the least and the most the text loads, with the next ones outside it does not. */
    private static void bounds(String marked, int least, int most) {
        Check.loaded("chain 2;" + marked.replace("^", String.valueOf(least)));
        Check.loaded("chain 2;" + marked.replace("^", String.valueOf(most)));
        Check.error(RANGE, "chain 2;" + marked.replace("^", "^" + (most + 1)));
        if (least != 0 && least != 1) {
            Check.error(RANGE, "chain 2;" + marked.replace("^", "^" + (least - 1)));
        } else if (least == 1) {
            Check.error(RANGE, "chain 2;" + marked.replace("^", "^0"));
        }
    }

    private static void repeated() {
        Check.error(SpringChain.REPEATED, "chain 2;pluck 1 0;pluck 0 0;pluck ^1 0;");
        Check.error(SpringChain.REPEATED, "chain 2;strike 1 0;strike  ^001 0;");
        Check.error(SpringChain.REPEATED, "chain 2;strike 1 0;strike ^1 x");
        Check.loaded("chain 2;pluck 1 0;strike 1 0;strike 0 0;pluck 0 0;");
        Check.error(RANGE, "chain 2;pluck 1 0;pluck ^2 0;");
        SpringChain x = new SpringChain();
        Check.due("a text", 2, () -> Check.load(x, "chain 2;pluck 1 0;strike 0 0;damp 1;"));
        Check.due("another begins anew", 2, () -> Check.load(x, "chain 2;pluck 1 0;strike 0 0;damp 1;"));
    }

    private static void tooMany() {
        String sixteen = "chain 1;" + "impulse 3 0 5;".repeat(16);
        Check.due("16 impulses", 16, () -> Check.loaded(sixteen).state(6));
        Check.error(SpringChain.TOO_MANY, sixteen + "masses 5; ^impulse 3 0 5;");
        Check.error(SpringChain.TOO_MANY, sixteen + "^impulse 3 7 5;");
        Check.error(SpringChain.TOO_MANY, sixteen + "^impulse x");
        Check.error(SYNTAX, sixteen + "^impulses 3 7 5;");
    }

    private static void firstErrorCounts() {
        Check.error(RANGE, "chain 2;mass ^2 100;x");
        Check.error(RANGE, "chain 2;pluck 0 1;pluck 1 ^10001;pluck 0 1;");
        Check.error(RANGE, "chain 2;pluck 0 ^99999 x");
        Check.error(SYNTAX, "chain 2;pluck 0 - ^x 99999;");
        Check.error(RANGE, "chain ^99x;");
        Check.error(RANGE, "chain 2;damp ^1000;damp 1;");
    }

    private static void errorOffset() {
        SpringChain x = new SpringChain();
        Check.due("an error", SYNTAX, () -> Check.load(x, "chain 2;x"));
        Check.due("its offset", 8, x::errorOffset);
        Check.throwsDue("a load that throws", ILLEGAL, () -> x.load(1));
        Check.due("leaves the offset", 8, x::errorOffset);
        x.pass(1);
        x.undo();
        Check.due("undo leaves the offset", 8, x::errorOffset);
        Check.due("no error", 2, () -> Check.load(x, "chain 2;"));
        Check.due("no offset", -1, x::errorOffset);
    }
}
