import java.math.BigInteger;

/**
 * Promises 1 to 4 and the setup text: a test of its own for each sentence that names a boundary.
 * In a text, the mark ^ stands where the error is due.
 */
public final class BoundsOfTextTest {
    private static final int SYNTAX = SpringChain.SYNTAX_ERROR;
    private static final int RANGE = SpringChain.OUT_OF_RANGE;
    private static final int REPEATED = SpringChain.REPEATED;
    private static final int TOO_MANY = SpringChain.TOO_MANY;
    private static final Class<? extends RuntimeException> ILLEGAL = IllegalArgumentException.class;
    private static final Class<? extends RuntimeException> INDEX = IndexOutOfBoundsException.class;
    private static final String IMPULSES = "chain 2;" + "impulse 3 0 5;".repeat(16);
    private static final String LIST = "If several kinds of error have the same offset, the first one in this list counts:";
    private static final String SYNTAX_LINE = "SYNTAX_ERROR: a token or byte that the grammar does not allow here, at its"
            + " first byte;";
    private static final String RANGE_LINE = "OUT_OF_RANGE: a number outside its range, at its first digit (of a sign:"
            + " at its \"-\", if it has one);";
    private static final String REPEATED_LINE = "REPEATED: a mass that was plucked, or struck, by the text already, at its"
            + " first digit.";
    private static final String TOO_MANY_LINE = "TOO_MANY: a 17th impulse, at the first letter of its statement.";
    private static final String SPACES = "Spaces (byte 32) may precede any token (also the number behind a -) and may"
            + " follow the last one;";
    private static final String LENGTH = "Throws `IllegalArgumentException` if length is negative or greater than the"
            + " length of the buffer; the buffer is unchanged then";

    public static void main(String[] args) {
        newObject();
        append();
        load();
        errorOffset();
        tokens();
        statements();
        errors();
        Check.end();
    }

    private static void newObject() {
        Check.holds(1, "Creates an object as by the text \"chain 1;\"", BoundsOfTextTest::asByTheText);
        Check.holds(1, "with an empty input buffer.", BoundsOfTextTest::emptyBuffer);
        Check.holds(1, "Before the first successful load all is as by the text \"chain 1;\".",
                BoundsOfTextTest::beforeTheFirstLoad);
    }

    private static void append() {
        Check.holds(2, "Appends 20 bytes to the input buffer:", BoundsOfTextTest::twentyBytes);
        Check.holds(2, "the 4 bytes of each argument, the most significant byte first.", BoundsOfTextTest::orderOfBytes);
        Check.holds(2, "Returns the new length of the buffer;", BoundsOfTextTest::newLength);
        Check.holds(2, "-1 if it would exceed 500 bytes,", BoundsOfTextTest::beyond500);
        Check.holds(2, "and the buffer is unchanged then.", BoundsOfTextTest::unchangedWhenFull);
        Check.holds(2, "The setup text is read from an input buffer of at most 500 bytes.",
                BoundsOfTextTest::textOf500Bytes);
    }

    private static void load() {
        Check.holds(3, "Reads the first bytes of the input buffer as a setup text", BoundsOfTextTest::firstBytes);
        Check.holds(3, "replaces all data by it;", BoundsOfTextTest::replacesAll);
        Check.holds(3, "the time is 0, and no pattern was noted.", BoundsOfTextTest::timeAndPatterns);
        Check.holds(3, "The input buffer is empty afterwards,", BoundsOfTextTest::emptyAfterwards);
        Check.holds(3, "also if the text has an error.", BoundsOfTextTest::emptyAfterAnError);
        Check.holds(3, "An error leaves all other data unchanged.", BoundsOfTextTest::errorLeavesAll);
        Check.holds(3, "An empty text has a SYNTAX_ERROR.", BoundsOfTextTest::emptyText);
        Check.holds(3, "Returns the number of masses;", BoundsOfTextTest::numberOfMasses);
        Check.holds(3, "or the error code of the first error.", BoundsOfTextTest::codeOfTheFirst);
        Check.holds(3, LENGTH, BoundsOfTextTest::lengthOfLoad);
    }

    private static void errorOffset() {
        Check.holds(4, "Returns the offset of the error found by the latest call of load", BoundsOfTextTest::offsets);
        Check.holds(4, "by the latest call of load that did not throw;", BoundsOfTextTest::offsetBehindAThrow);
        Check.holds(4, "-1 if it found none", BoundsOfTextTest::offsetOfNone);
        Check.holds(4, "or if there was no such call.", BoundsOfTextTest::offsetWithoutCall);
    }

    private static void tokens() {
        Check.holds(3, "A number is a run of decimal digits, of any length (leading zeros do not matter);",
                BoundsOfTextTest::numbers);
        Check.holds(3, "a word is a run of the letters a to z.", BoundsOfTextTest::words);
        Check.holds(3, "Each run is as long as possible.", BoundsOfTextTest::longRuns);
        Check.holds(3, SPACES, BoundsOfTextTest::spaces);
        Check.holds(3, "they are needed only between two numbers,", BoundsOfTextTest::neededBetweenNumbers);
        Check.holds(3, "and between two words.", BoundsOfTextTest::neededBetweenWords);
        Check.holds(3, "No other byte separates tokens.", BoundsOfTextTest::noOtherByte);
    }

    private static void statements() {
        Check.holds(3, "setup = \"chain\" number \";\" { statement \";\" }", BoundsOfTextTest::noStatement);
        Check.holds(3, "There are 1 to 12 masses in a row, with indexes from 0.", BoundsOfTextTest::oneToTwelve);
        Check.holds(3, "A mass has a weight (1 to 99),", BoundsOfTextTest::weights);
        Check.holds(3, "that of masses is the weight of all;", BoundsOfTextTest::weightOfAll);
        Check.holds(3, "A spring has a stiffness (0 to 999;", BoundsOfTextTest::stiffnesses);
        Check.holds(3, "and a limit (0 to 99999;", BoundsOfTextTest::limits);
        Check.holds(3, "and its limit (0 without it),", BoundsOfTextTest::withoutLimit);
        Check.holds(3, "that of springs is the stiffness of all (their limits stay).", BoundsOfTextTest::stiffnessOfAll);
        Check.holds(3, "Later statements count ahead of earlier ones.", BoundsOfTextTest::laterOnes);
        Check.holds(3, "The weights are 10 and the stiffnesses 100 at first.", BoundsOfTextTest::atFirst);
        Check.holds(3, "The damping is a number of thousandths (0 to 999).", BoundsOfTextTest::dampings);
        Check.holds(3, "The damping is 0 without damp, which may occur once.", BoundsOfTextTest::dampOnce);
        Check.holds(3, "Those of pluck are a mass and its displacement (-10000 to 10000),", BoundsOfTextTest::plucks);
        Check.holds(3, "those of strike a mass and its momentum (-100000 to 100000;", BoundsOfTextTest::strikes);
        Check.holds(3, "it counts as given by a strike),", BoundsOfTextTest::strikesAreGiven);
        Check.holds(3, "The ends have displacements, too (-100000 to 100000, 0 at first).", BoundsOfTextTest::ends);
        Check.holds(3, "There are at most 16 impulses,", BoundsOfTextTest::sixteen);
        Check.holds(3, "each with a tick (0 to 9999),", BoundsOfTextTest::ticksOfImpulses);
        Check.holds(3, "and a strength (-9999 to 9999, not 0).", BoundsOfTextTest::strengths);
    }

    private static void errors() {
        Check.holds(3, "The first error in the text is the one with the smallest offset.", BoundsOfTextTest::smallest);
        Check.holds(3, LIST, BoundsOfTextTest::sameOffset);
        Check.holds(3, SYNTAX_LINE, BoundsOfTextTest::tokensNotAllowed);
        Check.holds(3, "the end of the text, at its length, if the text ends too early;", BoundsOfTextTest::endsTooEarly);
        Check.holds(3, "a second damp, at its first letter.", BoundsOfTextTest::secondDamp);
        Check.holds(3, RANGE_LINE, BoundsOfTextTest::firstDigitOrSign);
        Check.holds(3, "a mass or a spring that there is not.", BoundsOfTextTest::noSuchMassOrSpring);
        Check.holds(3, REPEATED_LINE, BoundsOfTextTest::repeated);
        Check.holds(3, TOO_MANY_LINE, BoundsOfTextTest::seventeenth);
    }

    private static void asByTheText() {
        SpringChain x = new SpringChain();
        Check.due("all", Check.all(Check.loaded("chain 1;")), () -> Check.all(x));
        Check.row("state", x::state, ILLEGAL, 0, 1, 0, 0, 0, 0, 0, 0, 0, 0, 1, 0);
        Check.row("account", x::account, ILLEGAL, 0, 0, 0, 0, 0, 0, 0, 0);
        Check.row("weights", k -> x.mass(k, 0), INDEX, 10);
        Check.row("stiffnesses", k -> x.spring(k, 0), INDEX, 100, 100);
        Check.row("limits", k -> x.spring(k, 1), INDEX, 0, 0);
        Check.due("no change was made", -1, x::undo);
    }

    private static void emptyBuffer() {
        Check.throwsDue("load(1)", ILLEGAL, () -> new SpringChain().load(1));
        Check.due("load(0)", SYNTAX, () -> new SpringChain().load(0));
        Check.due("append", 20, () -> new SpringChain().append(0, 0, 0, 0, 0));
    }

    private static void beforeTheFirstLoad() {
        SpringChain x = new SpringChain();
        Check.due("a text with an error", RANGE, () -> Check.load(x, "chain 3;masses 5;damp 8;end left 9;masses 0;"));
        Check.due("checksum", new SpringChain().checksum(), x::checksum);
        Check.row("masses", k -> x.mass(k, 0), INDEX, 10);
        Check.row("springs", k -> x.spring(k, 0), INDEX, 100, 100);
        Check.due("nothing waits", 0, () -> x.state(6));
        Check.due("no change", -1, x::undo);
    }

    private static void twentyBytes() {
        for (int at = 0; at < 20; at++) {
            SpringChain x = new SpringChain();
            Check.put(x, " ".repeat(at) + "x" + " ".repeat(19 - at));
            Check.due("20 bytes", SYNTAX, () -> x.load(20));
            Check.due("the place of byte " + at, at, x::errorOffset);
        }
        SpringChain y = new SpringChain();
        y.append(0, 0, 0, 0, 0);
        Check.throwsDue("a 21st byte", ILLEGAL, () -> y.load(21));
    }

    private static void orderOfBytes() {
        SpringChain x = new SpringChain();
        x.append(0x63686169, 0x6e203132, 0x3b6d6173, 0x7365732d, 0x39393b20);
        Check.due("chain 12;masses-99;", SYNTAX, () -> x.load(20));
        Check.due("at the byte 2d", 15, x::errorOffset);
        x.append(0x63686169, 0x6e203132, 0x3b6d6173, 0x73657320, 0x39373b20);
        Check.due("chain 12;masses 97;", 12, () -> x.load(20));
        Check.due("weight", 97, () -> x.mass(0, 0));
        // The bytes of the least and of the greatest int, and of -1: none of them is a space.
        for (int word : new int[] {0x202020ff, 0x20202080, 0x2020207f, 0x20202000}) {
            x.append(0x63686169, 0x6e20313b, 0x20202020, word, 0x20202020);
            Check.due("a byte behind three spaces", SYNTAX, () -> x.load(20));
            Check.due("its offset", 15, x::errorOffset);
        }
        x.append(0x63686169, 0x6e20313b, 0x20202020, 0x20202020, -1);
        Check.due("-1", SYNTAX, () -> x.load(20));
        Check.due("its first byte", 16, x::errorOffset);
        x.append(Integer.MIN_VALUE, 0, 0, 0, 0);
        Check.due("the least int", SYNTAX, () -> x.load(20));
        Check.due("its first byte", 0, x::errorOffset);
    }

    private static void newLength() {
        SpringChain x = new SpringChain();
        for (int length = 20; length <= 500; length += 20) {
            Check.due("length " + length, length, () -> x.append(-1, -1, -1, -1, -1));
        }
        x.load(1);
        Check.due("behind load", 20, () -> x.append(0, 0, 0, 0, 0));
    }

    private static SpringChain full() {
        SpringChain x = new SpringChain();
        Check.put(x, "chain 7;" + " ".repeat(472));
        Check.due("the 25th append still fits", 500, () -> x.append(0x20202020, 0x20202020, 0x20202020, 0x20202020,
                0x20202020));
        return x;
    }

    private static void beyond500() {
        SpringChain x = full();
        Check.due("a 26th append", -1, () -> x.append(0, 0, 0, 0, 0));
        Check.due("a 27th append", -1, () -> x.append(-1, -1, -1, -1, -1));
    }

    private static void unchangedWhenFull() {
        SpringChain x = full();
        x.append(-1, -1, -1, -1, -1);
        Check.throwsDue("no byte came to it", ILLEGAL, () -> x.load(501));
        Check.due("no byte of it changed", 7, () -> x.load(500));
        Check.due("behind load there is room", 20, () -> x.append(0, 0, 0, 0, 0));
    }

    private static void textOf500Bytes() {
        String text = "chain 12;" + " ".repeat(480) + "mass 11 99;";
        Check.due("its length", 500, text::length);
        Check.due("its last statement counts", 99, () -> Check.loaded(text).mass(11, 0));
        Check.error(SYNTAX, "chain 12;" + " ".repeat(480) + "mass 11 99^x");
        Check.error(SYNTAX, "chain 12;" + " ".repeat(481) + "mass 11 99^");
    }

    private static void firstBytes() {
        SpringChain x = new SpringChain();
        Check.put(x, "chain 2;chain 3;");
        Check.due("what is behind the length does not count", 2, () -> x.load(8));
        Check.put(x, "chain 12;");
        Check.due("nor completes it a number", SYNTAX, () -> x.load(7));
        Check.due("the end of what is read", 7, x::errorOffset);
        Check.put(x, "chain 2;damp 57;");
        Check.due("nor a statement", SYNTAX, () -> x.load(12));
        Check.due("the end of what is read", 12, x::errorOffset);
        Check.put(x, "chain 2;damp 57;");
        Check.due("all 16 bytes", 2, () -> x.load(16));
        Check.due("damp", 57, () -> x.state(5));
    }

    /** A chain with nothing as it is at first. */
    private static SpringChain used() {
        SpringChain x = Check.loaded("chain 3;masses 7;springs 55;spring 0 9 limit 3;spring 1 8 limit 90000;damp 7;"
                + "pluck 1 40;strike 0 90;end left 50;end right 6;impulse 3 1 4;impulse 0 1 4;");
        Check.due("a spring breaks", 1, () -> x.pass(2));
        x.foretold(200, 0, 0);
        return x;
    }

    private static void replacesAll() {
        SpringChain x = used();
        Check.due("load", 3, () -> Check.load(x, "chain 3;"));
        Check.due("all", Check.all(Check.loaded("chain 3;")), () -> Check.all(x));
        Check.row("limits", k -> x.spring(k, 1), INDEX, 0, 0, 0, 0);
        Check.row("impulses", k -> x.waiting(k, 0), java.util.NoSuchElementException.class);
        Check.due("load of a greater one", 12, () -> Check.load(x, "chain 12;"));
        Check.due("all", Check.all(Check.loaded("chain 12;")), () -> Check.all(x));
    }

    private static void timeAndPatterns() {
        SpringChain x = used();
        Check.due("patterns ahead", true, () -> x.state(9) > 0);
        Check.due("load", 1, () -> Check.load(x, "chain 1;pluck 0 -4;"));
        Check.due("time", 0, () -> x.state(0));
        Check.due("patterns, also without that of the text", 0, () -> x.state(9));
        Check.row("noted", k -> x.noted(k, 0), java.util.NoSuchElementException.class);
    }

    private static void emptyAfterwards() {
        SpringChain x = new SpringChain();
        Check.put(x, "chain 2;chain 3;");
        Check.due("a part of it is read", 2, () -> x.load(8));
        Check.throwsDue("the rest is gone", ILLEGAL, () -> x.load(1));
        Check.due("append", 20, () -> x.append(0x63686169, 0x6e20343b, 0, 0, 0));
        Check.due("only the new bytes are there", 4, () -> x.load(8));
    }

    private static void emptyAfterAnError() {
        SpringChain x = new SpringChain();
        for (String text : new String[] {"x", "chain 2;damp 1000;", "chain 2;pluck 0 1;pluck 0 1;"}) {
            Check.due("an error in " + text, true, () -> Check.load(x, text) < 0);
            Check.throwsDue("load(1) behind " + text, ILLEGAL, () -> x.load(1));
            Check.due("append behind " + text, 20, () -> x.append(0, 0, 0, 0, 0));
            Check.due("load(0)", SYNTAX, () -> x.load(0));
        }
    }

    private static void errorLeavesAll() {
        for (String text : new String[] {"", "chain 5;masses 3;springs 4;damp 5;pluck 1 6;strike 1 7;end left 8;"
                + "impulse 1 1 9;x", "chain 5;end right 100001;", "chain 1;strike 0 1;strike 0 1;",
            IMPULSES + "impulse 0 0 1;"}) {
            SpringChain x = used();
            x.pluck(2, -80);
            long before = x.checksum();
            int told = x.waiting(0, 2);
            Check.due("an error in " + text, true, () -> Check.load(x, text) < 0);
            Check.due("checksum behind " + text, before, x::checksum);
            Check.due("impulse behind " + text, told, () -> x.waiting(0, 2));
            Check.due("three changes were made", 2, x::undo);
        }
    }

    private static void emptyText() {
        SpringChain x = new SpringChain();
        Check.due("load(0) of an empty buffer", SYNTAX, () -> x.load(0));
        Check.due("offset", 0, x::errorOffset);
        Check.put(x, "chain 2;");
        Check.due("load(0) of a buffer with a text", SYNTAX, () -> x.load(0));
        Check.due("offset", 0, x::errorOffset);
        Check.due("masses", 1, () -> x.state(1));
        Check.error(SYNTAX, " ".repeat(500) + "^");
    }

    private static void numberOfMasses() {
        for (int n = 1; n <= 12; n++) {
            String text = "chain " + n + ";";
            Check.due(text, n, () -> Check.load(new SpringChain(), text));
        }
    }

    private static void codeOfTheFirst() {
        Check.error(SYNTAX, "^x;chain 13;");
        Check.error(RANGE, "chain ^13;x");
        Check.error(REPEATED, "chain 2;pluck 0 1;pluck ^0 10001;x");
        Check.error(TOO_MANY, IMPULSES + "^impulse 99999 2 0;x");
    }

    private static void lengthOfLoad() {
        SpringChain x = new SpringChain();
        String[] texts = {"", "chain 2;            ", "chain 5;" + " ".repeat(492)};
        for (String text : texts) {
            Check.put(x, text);
            for (int length : new int[] {-1, text.length() + 1, Integer.MAX_VALUE, Integer.MIN_VALUE}) {
                Check.refused(x, "load(" + length + ") of " + text.length(), ILLEGAL, () -> x.load(length));
            }
            Check.due("append to the same length", text.length() == 500 ? -1 : text.length() + 20,
                    () -> x.append(0x20202020, 0x20202020, 0x20202020, 0x20202020, 0x20202020));
            int masses = text.isEmpty() ? SYNTAX : text.charAt(6) - '0';
            Check.due("the buffer is as it was", masses, () -> x.load(text.length()));
        }
    }

    private static void offsets() {
        SpringChain x = new SpringChain();
        String blank = " ".repeat(500);
        Check.due("a text that ends too early", SYNTAX, () -> Check.load(x, blank));
        Check.due("at its length", 500, x::errorOffset);
        Check.due("an error in the first byte", SYNTAX, () -> Check.load(x, ";"));
        Check.due("its offset", 0, x::errorOffset);
        Check.due("an error in the last byte", SYNTAX, () -> Check.load(x, blank.substring(1) + "x"));
        Check.due("its offset", 499, x::errorOffset);
        x.pluck(0, 4);
        x.undo();
        x.append(0, 0, 0, 0, 0);
        Check.due("other calls leave it", 499, x::errorOffset);
    }

    private static void offsetBehindAThrow() {
        SpringChain x = new SpringChain();
        Check.due("an error", SYNTAX, () -> Check.load(x, "chain 2;x"));
        Check.throwsDue("a load that throws", ILLEGAL, () -> x.load(1));
        Check.due("the offset stays", 8, x::errorOffset);
        Check.due("no error", 2, () -> Check.load(x, "chain 2;"));
        Check.throwsDue("a load that throws", ILLEGAL, () -> x.load(-1));
        Check.due("-1 stays", -1, x::errorOffset);
    }

    private static void offsetOfNone() {
        SpringChain x = new SpringChain();
        Check.due("an error", RANGE, () -> Check.load(x, "chain 0;"));
        Check.due("its offset", 6, x::errorOffset);
        Check.due("no error", 2, () -> Check.load(x, "chain 2;"));
        Check.due("no offset", -1, x::errorOffset);
        Check.due("undo", 0, x::undo);
        Check.due("undo leaves it", -1, x::errorOffset);
    }

    private static void offsetWithoutCall() {
        SpringChain x = new SpringChain();
        Check.due("new", -1, x::errorOffset);
        Check.throwsDue("a call that throws", ILLEGAL, () -> x.load(1));
        Check.due("is no such call", -1, x::errorOffset);
    }

    private static void numbers() {
        Check.due("a number of 488 zeros and 12", 12, () -> Check.loaded("chain " + "0".repeat(488) + "12;").state(1));
        Check.due("-0", 0, () -> Check.loaded("chain 1;pluck 0 -" + "0".repeat(400) + ";").mass(0, 1));
        Check.due("-00010000", -10000, () -> Check.loaded("chain 1;pluck 00 -00010000;").mass(0, 1));
        // None of these wraps around to 1 or -1 in a byte, a short, an int, a long, or a double.
        Check.error(RANGE, "chain ^257;");
        Check.error(RANGE, "chain ^65537;");
        for (int bits : new int[] {31, 32, 33, 63, 64, 65, 96, 128, 256, 512, 1024, 1500}) {
            String one = BigInteger.ONE.shiftLeft(bits).add(BigInteger.ONE).toString();
            Check.error(RANGE, "chain ^" + one + ";");
            Check.error(RANGE, "chain 1;end left ^-" + one + ";");
        }
        Check.error(RANGE, "chain ^" + "9".repeat(494));
        Check.error(RANGE, "chain ^1" + "0".repeat(492) + ";");
    }

    private static void words() {
        Check.error(SYNTAX, "chain 1;^dampa 5;");
        Check.error(SYNTAX, "chain 1;^dampz 5;");
        Check.error(SYNTAX, "chain 1;damp^`5;");
        Check.error(SYNTAX, "chain 1;damp^{5;");
        Check.error(SYNTAX, "chain 1;damp^A5;");
        Check.error(SYNTAX, "chain 1;damp^Z5;");
        Check.error(SYNTAX, "chain 1;^Damp 5;");
        Check.error(SYNTAX, "^Chain 1;");
        Check.error(SYNTAX, "chain^\u00e11;");
        Check.due("a digit ends a word", 5, () -> Check.loaded("chain1;damp5;").state(5));
    }

    private static void longRuns() {
        Check.error(SYNTAX, "chain 1;^massess 5;");
        Check.error(SYNTAX, "chain 1;^masse 5;");
        Check.error(SYNTAX, "chain 1;^springss 5;");
        Check.error(SYNTAX, "chain 1;^dampend left 5;");
        Check.error(SYNTAX, "^chainchain 1;");
        Check.error(SYNTAX, "chain 1;^d");
        Check.due("masses is not mass", 8, () -> Check.loaded("chain 2;masses 8;").mass(1, 0));
        Check.due("springs is not spring", 8, () -> Check.loaded("chain 2;springs 8;").spring(2, 0));
        Check.error(RANGE, "chain ^112;");
        Check.error(RANGE, "chain 12;mass ^111 5;");
        Check.due("12 is not 1 and 2", 12, () -> Check.loaded("chain 12;").state(1));
    }

    private static final String[] TOKENS = {"chain", "2", ";", "mass", "0", "5", ";", "masses", "7", ";", "spring", "0",
        "6", "limit", "9", ";", "springs", "4", ";", "damp", "3", ";", "pluck", "0", "-", "5", ";", "strike", "1", "-",
        "6", ";", "end", "left", "-", "7", ";", "end", "right", "8", ";", "impulse", "3", "1", "-", "4", ";"};

    private static String spaced(String between) {
        return between + String.join(between, TOKENS) + between;
    }

    private static void isAsSpaced(String text) {
        SpringChain x = Check.loaded(text);
        Check.row("weights", k -> x.mass(k, 0), INDEX, 7, 7);
        Check.row("displacements", k -> x.mass(k, 1), INDEX, -5, 0);
        Check.row("momenta", k -> x.mass(k, 2), INDEX, 0, -6);
        Check.row("stiffnesses", k -> x.spring(k, 0), INDEX, 4, 4, 4);
        Check.row("limits", k -> x.spring(k, 1), INDEX, 9, 0, 0);
        Check.row("impulse", k -> x.waiting(0, k), ILLEGAL, 3, 1, -4);
        Check.row("state", x::state, ILLEGAL, 0, 2, 0, -7, 8, 3, 1, 2, 0, 0, 1, 0);
    }

    private static void spaces() {
        isAsSpaced(spaced(" "));
        isAsSpaced(spaced("      "));
        Check.due("none at the end", 1, () -> Check.loaded("     chain 1;").state(1));
        Check.due("many at the end", 1, () -> Check.loaded("chain 1;" + " ".repeat(492)).state(1));
        Check.due("many behind a -", -3, () -> Check.loaded("chain 1;pluck 0 -" + " ".repeat(480) + "3;").mass(0, 1));
    }

    private static void neededBetweenNumbers() {
        isAsSpaced("chain2;mass0 5;masses7;spring0 6limit9;springs4;damp3;pluck0-5;strike1-6;end left-7;end right8;"
                + "impulse3 1-4;");
        Check.error(SYNTAX, "chain 12;mass 05^;");
        Check.error(SYNTAX, "chain 12;impulse 0 05^;");
        Check.error(RANGE, "chain 12;pluck ^115;");
    }

    private static void neededBetweenWords() {
        Check.error(SYNTAX, "chain 1;^endleft 5;");
        Check.error(SYNTAX, "chain 1;^endright 5;");
        Check.due("with one", 5, () -> Check.loaded("chain 1;end left 5;").state(3));
    }

    private static void noOtherByte() {
        for (char b = 0; b < 256; b++) {
            if (b != ' ') {
                Check.errorAt(SYNTAX, 0, b + "chain 2;");
                Check.errorAt(SYNTAX, 8, "chain 2;" + b);
                Check.errorAt(SYNTAX, 8, "chain 2;" + b + "damp 5;");
            }
            boolean isDigit = b >= '0' && b <= '9';
            if (isDigit) {
                Check.errorAt(RANGE, 14, "chain 2;pluck 1" + b + "5 5;");
            } else if (b != ' ') {
                boolean isLetter = b >= 'a' && b <= 'z';
                Check.errorAt(SYNTAX, isLetter ? 0 : 5, "chain" + b + "1;");
                Check.errorAt(SYNTAX, 14, "chain 2;mass 1" + b + "5;");
                Check.errorAt(SYNTAX, 17, "chain 2;pluck 1 -" + b + "5;");
            }
        }
    }

    private static void noStatement() {
        Check.due("no statement", 3, () -> Check.loaded("chain 3;").state(1));
        Check.error(SYNTAX, "chain 3;^;");
        Check.error(SYNTAX, "chain 3;damp 5;^;");
        Check.error(SYNTAX, "^damp 5;");
        Check.error(SYNTAX, "^;");
        Check.error(SYNTAX, "chain 3;^chain 3;");
        // The most statements that 500 bytes hold.
        Check.due("61 statements", 9, () -> Check.loaded("chain1;" + "masses8;".repeat(60) + "masses9;").mass(0, 0));
    }

    /** Reads one number of a chain. */
    private interface Reading {
        Object of(SpringChain x);
    }

    /** With the least and the most number at its mark the text loads, and they are read; with the next ones it errs. */
    private static void range(String marked, int least, int most, Reading reading) {
        for (int n : new int[] {least, most}) {
            String text = marked.replace("^", String.valueOf(n));
            Check.due("read of " + text, n, () -> reading.of(Check.loaded(text)));
        }
        Check.error(RANGE, marked.replace("^", "^" + (most + 1)));
        Check.error(RANGE, marked.replace("^", "^" + Integer.MAX_VALUE));
        if (least < 0) {
            Check.error(RANGE, marked.replace("^", "^" + (least - 1)));
        } else if (least > 0) {
            Check.error(RANGE, marked.replace("^", "^" + (least - 1)));
            Check.error(SYNTAX, marked.replace("^", "^-" + most));
        } else {
            Check.error(SYNTAX, marked.replace("^", "^-1"));
            Check.error(SYNTAX, marked.replace("^", "^-0"));
        }
    }

    private static void oneToTwelve() {
        range("chain ^;", 1, 12, x -> x.state(1));
        SpringChain twelve = Check.loaded("chain 12;mass 0 5;mass 11 6;");
        Check.row("the weights", k -> twelve.mass(k, 0), INDEX, 5, 10, 10, 10, 10, 10, 10, 10, 10, 10, 10, 6);
        SpringChain one = Check.loaded("chain 1;mass 0 5;");
        Check.row("the weight", k -> one.mass(k, 0), INDEX, 5);
    }

    private static void weights() {
        range("chain 2;mass 1 ^;", 1, 99, x -> x.mass(1, 0));
        range("chain 2;masses ^;", 1, 99, x -> x.mass(1, 0));
    }

    private static void weightOfAll() {
        SpringChain x = Check.loaded("chain 12;mass 3 5;masses 99;");
        Check.row("the weights", k -> x.mass(k, 0), INDEX, 99, 99, 99, 99, 99, 99, 99, 99, 99, 99, 99, 99);
    }

    private static void stiffnesses() {
        range("chain 2;spring 2 ^;", 0, 999, x -> x.spring(2, 0));
        range("chain 2;spring 2 ^limit 5;", 0, 999, x -> x.spring(2, 0));
        range("chain 2;springs ^;", 0, 999, x -> x.spring(2, 0));
    }

    private static void limits() {
        range("chain 2;spring 2 5 limit ^;", 0, 99999, x -> x.spring(2, 1));
    }

    private static void withoutLimit() {
        Check.due("never told", 0, () -> Check.loaded("chain 2;spring 0 5;").spring(0, 1));
        SpringChain x = Check.loaded("chain 2;spring 0 5 limit 9;spring 2 5 limit 8;spring 0 7;");
        Check.row("told, and then told without it", k -> x.spring(k, 1), INDEX, 0, 0, 8);
    }

    private static void stiffnessOfAll() {
        SpringChain x = Check.loaded("chain 12;spring 0 5 limit 9;spring 12 6 limit 99999;springs 0;");
        Check.row("stiffnesses", k -> x.spring(k, 0), INDEX, 0, 0, 0, 0, 0, 0, 0, 0, 0, 0, 0, 0, 0);
        Check.row("limits", k -> x.spring(k, 1), INDEX, 9, 0, 0, 0, 0, 0, 0, 0, 0, 0, 0, 0, 99999);
    }

    private static void laterOnes() {
        SpringChain x = Check.loaded("chain 3;mass 0 5;mass 0 6;mass 1 7;masses 8;mass 2 9;springs 3;spring 0 4 limit 5;"
                + "spring 0 6 limit 7;spring 1 8;springs 2;spring 3 1;end left 5;end left -6;end right 7;end right 8;");
        Check.row("weights", k -> x.mass(k, 0), INDEX, 8, 8, 9);
        Check.row("stiffnesses", k -> x.spring(k, 0), INDEX, 2, 2, 2, 1);
        Check.row("limits", k -> x.spring(k, 1), INDEX, 7, 0, 0, 0);
        Check.due("left", -6, () -> x.state(3));
        Check.due("right", 8, () -> x.state(4));
    }

    private static void atFirst() {
        SpringChain x = used();
        Check.due("load", 12, () -> Check.load(x, "chain 12;"));
        Check.row("weights", k -> x.mass(k, 0), INDEX, 10, 10, 10, 10, 10, 10, 10, 10, 10, 10, 10, 10);
        Check.row("stiffnesses", k -> x.spring(k, 0), INDEX, 100, 100, 100, 100, 100, 100, 100, 100, 100, 100, 100, 100,
                100);
    }

    private static void dampings() {
        range("chain 2;damp ^;", 0, 999, x -> x.state(5));
    }

    private static void dampOnce() {
        Check.due("without", 0, () -> Check.loaded("chain 1;masses 5;").state(5));
        Check.due("once", 7, () -> Check.loaded("chain 1;damp 7;").state(5));
        SpringChain x = Check.loaded("chain 1;damp 7;");
        Check.due("another text may have one", 1, () -> Check.load(x, "chain 1;damp 8;"));
        Check.due("also behind a text with two", SYNTAX, () -> Check.load(x, "chain 1;damp 8;damp 8;"));
        Check.due("another text", 1, () -> Check.load(x, "chain 1;damp 9;"));
        Check.due("damping", 9, () -> x.state(5));
        Check.due("a text without", 1, () -> Check.load(x, "chain 1;"));
        Check.due("damping", 0, () -> x.state(5));
    }

    private static void plucks() {
        range("chain 2;pluck 1 ^;", -10000, 10000, x -> x.mass(1, 1));
        Check.due("not plucked", 0, () -> Check.loaded("chain 2;pluck 0 5;").mass(1, 1));
    }

    private static void strikes() {
        range("chain 2;strike 1 ^;", -100000, 100000, x -> x.mass(1, 2));
        Check.due("not struck", 0, () -> Check.loaded("chain 2;strike 0 5;").mass(1, 2));
    }

    private static void strikesAreGiven() {
        Check.due("least", -100000, () -> Check.loaded("chain 2;strike 1 -100000;").account(3));
        StringBuilder text = new StringBuilder("chain 12;");
        for (int mass = 0; mass < 12; mass++) {
            text.append("strike ").append(mass).append(" 100000;");
        }
        Check.due("twelve", 1200000, () -> Check.loaded(text.toString()).account(3));
        Check.due("none", 0, () -> Check.loaded("chain 2;pluck 1 5;").account(3));
    }

    private static void ends() {
        range("chain 2;end left ^;", -100000, 100000, x -> x.state(3));
        range("chain 2;end right ^;", -100000, 100000, x -> x.state(4));
        Check.due("the right one at first", 0, () -> Check.loaded("chain 2;end left 5;").state(4));
        Check.due("the left one at first", 0, () -> Check.loaded("chain 2;end right 5;").state(3));
    }

    private static void sixteen() {
        Check.due("16 wait", 16, () -> Check.loaded(IMPULSES).state(6));
        SpringChain x = new SpringChain();
        Check.due("17", TOO_MANY, () -> Check.load(x, IMPULSES + "impulse 0 0 1;"));
        Check.due("the next text begins anew", 2, () -> Check.load(x, IMPULSES));
        Check.due("and once more", 2, () -> Check.load(x, IMPULSES));
        Check.row("the last", k -> x.waiting(15, k), ILLEGAL, 3, 0, 5);
    }

    private static void ticksOfImpulses() {
        range("chain 2;impulse ^ 1 5;", 0, 9999, x -> x.waiting(0, 0));
    }

    private static void strengths() {
        range("chain 2;impulse 3 1 ^;", -9999, 9999, x -> x.waiting(0, 2));
        Check.error(RANGE, "chain 2;impulse 3 1 ^0;");
        Check.error(RANGE, "chain 2;impulse 3 1 ^0000;");
        Check.error(RANGE, "chain 2;impulse 3 1 ^-0;");
        Check.error(RANGE, "chain 2;impulse 3 1 ^-  00;");
        Check.due("1", 1, () -> Check.loaded("chain 2;impulse 3 1 1;").waiting(0, 2));
        Check.due("-1", -1, () -> Check.loaded("chain 2;impulse 3 1 -1;").waiting(0, 2));
    }

    private static void smallest() {
        Check.error(RANGE, "chain ^13;chain 13;");
        Check.error(RANGE, "chain ^0");
        Check.error(RANGE, "chain 2;mass ^2 100;");
        Check.error(RANGE, "chain 2;mass 1 ^100 x");
        Check.error(SYNTAX, "chain 2;mass 1^;masses 100;");
        Check.error(SYNTAX, "chain 2;pluck 0 1;pluck^;pluck 0 1;");
        Check.error(REPEATED, "chain 2;pluck 0 1;pluck ^0 99999;");
        Check.error(REPEATED, "chain 2;pluck 0 1;pluck ^0;");
        Check.error(TOO_MANY, IMPULSES + "^impulse 0 2 0;");
        Check.error(TOO_MANY, IMPULSES + "^impulse");
        Check.error(RANGE, "chain 2;impulse ^10000 9 0;");
        Check.error(RANGE, "chain 2;impulse 9999 ^9 0;");
    }

    private static void sameOffset() {
        // A sign of a number that has none is no token here, before it is a number outside of a range.
        Check.error(SYNTAX, "chain ^-1;");
        Check.error(SYNTAX, "chain 2;mass ^-1 5;");
        Check.error(SYNTAX, "chain 2;damp ^-1000;");
        // A mass that there is not can't be plucked or struck already.
        Check.error(RANGE, "chain 2;pluck 0 1;pluck ^2 1;");
        Check.error(RANGE, "chain 2;strike 1 1;strike ^10 1;");
        // A second damp is not allowed, whatever its number is.
        Check.error(SYNTAX, "chain 2;damp 1;^damp 1000;");
        // A word that begins as impulse is no 17th one.
        Check.error(SYNTAX, IMPULSES + "^impulses 0 0 1;");
        Check.error(SYNTAX, IMPULSES + "^impuls 0 0 1;");
    }

    /** Each place of the grammar, as the text ahead of it, and what may stand there: n a number, ; - and words. */
    private static final String[][] PLACES = {{"", "chain"}, {"chain ", "n"}, {"chain 2 ", ";"}, {"chain 2;mass ", "n"},
        {"chain 2;mass 0 ", "n"}, {"chain 2;mass 0 5 ", ";"}, {"chain 2;masses ", "n"}, {"chain 2;masses 5 ", ";"},
        {"chain 2;spring ", "n"}, {"chain 2;spring 0 ", "n"}, {"chain 2;spring 0 5 ", "; limit"},
        {"chain 2;spring 0 5 limit ", "n"}, {"chain 2;spring 0 5 limit 5 ", ";"}, {"chain 2;springs ", "n"},
        {"chain 2;springs 5 ", ";"}, {"chain 2;damp ", "n"}, {"chain 2;damp 5 ", ";"}, {"chain 2;pluck ", "n"},
        {"chain 2;pluck 0 ", "n -"}, {"chain 2;pluck 0 - ", "n"}, {"chain 2;pluck 0 -5 ", ";"},
        {"chain 2;pluck 0 5 ", ";"}, {"chain 2;strike ", "n"}, {"chain 2;strike 0 ", "n -"},
        {"chain 2;strike 0 - ", "n"}, {"chain 2;strike 0 -5 ", ";"}, {"chain 2;end ", "left right"},
        {"chain 2;end left ", "n -"}, {"chain 2;end left - ", "n"}, {"chain 2;end left -5 ", ";"},
        {"chain 2;end right ", "n -"}, {"chain 2;end right - ", "n"}, {"chain 2;end right 5 ", ";"},
        {"chain 2;impulse ", "n"}, {"chain 2;impulse 0 ", "n"}, {"chain 2;impulse 0 0 ", "n -"},
        {"chain 2;impulse 0 0 - ", "n"}, {"chain 2;impulse 0 0 -5 ", ";"}, {"chain 2;", "mass damp"},
        {"chain 2;damp 5;", "mass"}};
    private static final String[] WRONG = {"1", ";", "-", "left", "right", "limit", "chain", "mass", "damp", "q", "lim",
        "+", "\t", "\n", "\u0000", "\u00ff", "A", ":", "/"};

    private static void tokensNotAllowed() {
        for (String[] place : PLACES) {
            for (String token : WRONG) {
                String kind = token.equals("1") ? "n" : token;
                if (!java.util.List.of(place[1].split(" ")).contains(kind)) {
                    Check.error(SYNTAX, place[0] + "^" + token);
                }
            }
        }
    }

    private static void endsTooEarly() {
        for (String[] place : PLACES) {
            if (!place[0].endsWith(";")) {
                Check.error(SYNTAX, place[0] + "^");
                Check.error(SYNTAX, place[0] + "   ^");
                Check.error(SYNTAX, place[0].stripTrailing() + "^");
            }
        }
        Check.due("only a ; ends it", 2, () -> Check.loaded("chain 2;").state(1));
        Check.error(SYNTAX, "chain 2^");
        Check.error(SYNTAX, "chain 2;end left 5;end right -6^");
    }

    private static void secondDamp() {
        Check.error(SYNTAX, "chain 2;damp 5;^damp 5;");
        Check.error(SYNTAX, "chain 2;damp 0;masses 4;   ^damp 0;");
        Check.error(SYNTAX, "chain 2;damp 5;^damp");
        Check.error(SYNTAX, "chain 2;damp 5;^damp x");
        Check.error(SYNTAX, "chain 2;damp 5;^damp1000;");
    }

    private static void firstDigitOrSign() {
        Check.error(RANGE, "chain   ^0013;");
        Check.error(RANGE, "chain ^000;");
        Check.error(RANGE, "chain 2;pluck 0 ^-10001;");
        Check.error(RANGE, "chain 2;pluck 0   ^-   10001;");
        Check.error(RANGE, "chain 2;pluck 0   ^010001;");
        Check.error(RANGE, "chain 2;strike 0 ^-100001;");
        Check.error(RANGE, "chain 2;strike 0 ^- 100001;");
        Check.error(RANGE, "chain 2;end left ^-100001;");
        Check.error(RANGE, "chain 2;end right^- 100001;");
        Check.error(RANGE, "chain 2;impulse 0 0^-10000;");
        Check.error(RANGE, "chain 2;impulse 0 0 ^- 0;");
        Check.error(RANGE, "chain 2;spring 0 1limit^100000;");
    }

    private static void noSuchMassOrSpring() {
        for (int n : new int[] {1, 2, 12}) {
            String head = "chain " + n + ";";
            for (String word : new String[] {"mass ", "pluck ", "strike ", "impulse 0 "}) {
                Check.loaded(head + word + (n - 1) + " 1;");
                Check.error(RANGE, head + word + "^" + n + " 1;");
                Check.error(RANGE, head + word + "^4294967296 1;");
            }
            Check.loaded(head + "spring " + n + " 1;");
            Check.error(RANGE, head + "spring ^" + (n + 1) + " 1;");
            Check.error(RANGE, head + "spring ^4294967296 1;");
        }
    }

    private static void repeated() {
        Check.error(REPEATED, "chain 2;pluck 1 5;pluck ^1 5;");
        Check.error(REPEATED, "chain 2;strike 1 5;strike ^1 5;");
        Check.error(REPEATED, "chain 2;pluck 0 0;pluck 1 0;pluck  ^000 0;");
        Check.error(REPEATED, "chain 2;strike 0 -0;strike 1 0;strike^0 0;");
        Check.error(REPEATED, "chain 12;pluck 11 5;strike 11 5;pluck ^11 5;");
        Check.error(REPEATED, "chain 12;pluck 11 5;strike 11 5;strike ^11");
        StringBuilder each = new StringBuilder("chain 12;");
        for (int mass = 0; mass < 12; mass++) {
            each.append("pluck ").append(mass).append(" 5;strike ").append(mass).append(" 6;");
        }
        SpringChain x = Check.loaded(each.toString());
        Check.due("each of 12 once plucked and once struck", 72, () -> x.account(3));
        Check.due("an error", SYNTAX, () -> Check.load(x, "chain 2;pluck 1 5;strike 0 5;x"));
        Check.due("the next text begins anew", 2, () -> Check.load(x, "chain 2;pluck 1 7;strike 0 8;"));
        Check.due("plucked", 7, () -> x.mass(1, 1));
    }

    private static void seventeenth() {
        Check.error(TOO_MANY, IMPULSES + "^impulse 3 0 5;");
        Check.error(TOO_MANY, IMPULSES + "masses 5;   ^impulse 3 0 5;");
        Check.error(TOO_MANY, IMPULSES + "^impulse 9999 1 -9999;");
        Check.error(TOO_MANY, IMPULSES + "^impulse 10000 2 0;");
        Check.error(RANGE, "chain 2;" + "impulse 3 0 5;".repeat(15) + "impulse 3 0 ^0;impulse 3 0 5;");
        Check.due("16", 16, () -> Check.loaded(IMPULSES + "masses 5;end left 6;").state(6));
    }
}
