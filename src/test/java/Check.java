import java.nio.charset.StandardCharsets;
import java.util.Objects;

/** What the tests share: comparing, counting what is wrong, and putting texts into an object. */
final class Check {
    private static int wrong = 0;
    private static int checked = 0;
    private static int sentences = 0;
    private static String held = "";

    private Check() {
    }

    interface Call {
        Object run();
    }

    static void due(String what, Object want, Call call) {
        checked++;
        String got = outcome(call);
        if (!Objects.equals(got, String.valueOf(want))) {
            report(what + " answered " + got + ", due is " + want);
        }
    }

    private static void report(String fault) {
        wrong++;
        System.out.println(held + fault);
    }

    /**
     * A test for one sentence of the document: it is told by promise and sentence if it fails. A
     * sentence ahead of all promises is told with the promise in which it shows.
     */
    static void holds(int promise, String sentence, Runnable test) {
        held = "promise " + promise + ", \"" + sentence + "\": ";
        sentences++;
        int before = checked;
        if (!Doc.says(promise, sentence)) {
            report("this does not stand in the document");
        }
        try {
            test.run();
        } catch (RuntimeException e) {
            report("the test came to " + e);
        }
        if (checked == before) {
            report("nothing was checked");
        }
        held = "";
    }

    static void throwsDue(String what, Class<? extends RuntimeException> want, Call call) {
        due(what, "throws." + want.getSimpleName(), call);
    }

    /** An answer as a text, with throws. ahead of the name of an exception. */
    static String outcome(Call call) {
        try {
            return String.valueOf(call.run());
        } catch (RuntimeException e) {
            return "throws." + e.getClass().getSimpleName();
        }
    }

    /** Appends the text (signs 0 to 255), filled up with x to whole calls of append. */
    static void put(SpringChain chain, String text) {
        byte[] bytes = text.getBytes(StandardCharsets.ISO_8859_1);
        for (int at = 0; at < bytes.length; at += 20) {
            chain.append(word(bytes, at), word(bytes, at + 4), word(bytes, at + 8), word(bytes, at + 12),
                    word(bytes, at + 16));
        }
    }

    private static int word(byte[] bytes, int at) {
        int word = 0;
        for (int k = at; k < at + 4; k++) {
            word = word << 8 | (k < bytes.length ? bytes[k] & 255 : 'x');
        }
        return word;
    }

    static int load(SpringChain chain, String text) {
        put(chain, text);
        return chain.load(text.length());
    }

    static SpringChain loaded(String text) {
        SpringChain chain = new SpringChain();
        due("load of " + text, true, () -> load(chain, text) > 0);
        return chain;
    }

    /** The text, without its mark ^, has this error at the mark, and changes nothing else. */
    static void error(int code, String marked) {
        errorAt(code, marked.indexOf('^'), marked.replace("^", ""));
    }

    static void errorAt(int code, int offset, String text) {
        SpringChain chain = new SpringChain();
        due("a change ahead", 0, () -> chain.pluck(0, 7));
        long before = chain.checksum();
        due("load of \"" + text + "\"", code, () -> load(chain, text));
        due("errorOffset of \"" + text + "\"", offset, chain::errorOffset);
        due("checksum behind \"" + text + "\"", before, chain::checksum);
        due("undo behind \"" + text + "\"", 0, chain::undo);
        throwsDue("the buffer behind \"" + text + "\"", IllegalArgumentException.class, () -> chain.load(1));
    }

    /** All that can be asked of an object without changing it. */
    static String all(SpringChain x) {
        StringBuilder told = new StringBuilder(x.checksum() + " " + x.errorOffset());
        int waiting = x.state(6);
        for (int k = 0; k < waiting; k++) {
            told.append(' ').append(x.waiting(k, 0)).append(' ').append(x.waiting(k, 1)).append(' ')
                    .append(x.waiting(k, 2));
        }
        return told.toString();
    }

    /** The call throws this, and changes nothing. */
    static void refused(SpringChain x, String what, Class<? extends RuntimeException> want, Call call) {
        String before = all(x);
        throwsDue(what, want, call);
        due("all behind " + what, before, () -> all(x));
    }

    /** A call with one number that has a range. */
    interface Ranged {
        Object call(SpringChain x, int n);
    }

    /** On new objects: the least and the most are allowed, the numbers next to them and the farthest are refused. */
    static void range(String text, String what, int least, int most, Class<? extends RuntimeException> outside,
            Ranged ranged) {
        for (int n : new int[] {least, most}) {
            SpringChain x = loaded(text);
            due(what + " with " + n + " is allowed", true, () -> !outcome(() -> ranged.call(x, n)).startsWith("throws."));
        }
        for (int n : new int[] {least - 1, most + 1, Integer.MIN_VALUE, Integer.MAX_VALUE}) {
            SpringChain x = loaded(text);
            refused(x, what + " with " + n, outside, () -> ranged.call(x, n));
            due("changes behind " + what + " with " + n, 0, x::undo);
        }
    }

    /** Asks one thing of a chain. */
    interface Question {
        Object ask(int k);
    }

    /** The answers for 0, 1, 2 .., and an exception for what lies outside of them. */
    static void row(String what, Question question, Class<? extends RuntimeException> outside, Object... want) {
        for (int k = 0; k < want.length; k++) {
            int at = k;
            due(what + " " + k, want[k], () -> question.ask(at));
        }
        for (int k : new int[] {-1, want.length, Integer.MAX_VALUE, Integer.MIN_VALUE}) {
            throwsDue(what + " " + k, outside, () -> question.ask(k));
        }
    }

    static void end() {
        String tests = sentences > 0 ? sentences + " sentences, " : "";
        System.out.println(tests + checked + " checked, " + wrong + " wrong");
        if (wrong != 0) {
            System.exit(1);
        }
    }
}
