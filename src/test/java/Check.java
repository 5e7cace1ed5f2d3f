import java.nio.charset.StandardCharsets;
import java.util.Objects;

/** What the tests share: comparing, counting what is wrong, and putting texts into an object. */
final class Check {
    private static int wrong = 0;
    private static int checked = 0;

    private Check() {
    }

    interface Call {
        Object run();
    }

    static void due(String what, Object want, Call call) {
        checked++;
        String got = outcome(call);
        if (!Objects.equals(got, String.valueOf(want))) {
            wrong++;
            System.out.println(what + " answered " + got + ", due is " + want);
        }
    }

    static void throwsDue(String what, Class<? extends RuntimeException> want, Call call) {
        due(what, "throws." + want.getSimpleName(), call);
    }

    /** An answer as a text, with throws. ahead of the name of an exception. */
    static String outcome(Call call) {
        try {
            return String.valueOf(call.run());
        } catch (RuntimeException e) {
            return "throws." + e.getClass().getSimpleName();
        }
    }

    /** Appends the text (signs 0 to 255), filled up with x to whole calls of append. */
    static void put(SpringChain chain, String text) {
        byte[] bytes = text.getBytes(StandardCharsets.ISO_8859_1);
        for (int at = 0; at < bytes.length; at += 20) {
            chain.append(word(bytes, at), word(bytes, at + 4), word(bytes, at + 8), word(bytes, at + 12),
                    word(bytes, at + 16));
        }
    }

    private static int word(byte[] bytes, int at) {
        int word = 0;
        for (int k = at; k < at + 4; k++) {
            word = word << 8 | (k < bytes.length ? bytes[k] & 255 : 'x');
        }
        return word;
    }

    static int load(SpringChain chain, String text) {
        put(chain, text);
        return chain.load(text.length());
    }

    static SpringChain loaded(String text) {
        SpringChain chain = new SpringChain();
        due("load of " + text, true, () -> load(chain, text) > 0);
        return chain;
    }

    /** The text, without its mark ^, has this error at the mark, and changes nothing else. */
    static void error(int code, String marked) {
        int offset = marked.indexOf('^');
        String text = marked.replace("^", "");
        SpringChain chain = new SpringChain();
        due("a change ahead", 0, () -> chain.pluck(0, 7));
        long before = chain.checksum();
        due("load of \"" + marked + "\"", code, () -> load(chain, text));
        due("errorOffset of \"" + marked + "\"", offset, chain::errorOffset);
        due("checksum behind \"" + marked + "\"", before, chain::checksum);
        due("undo behind \"" + marked + "\"", 0, chain::undo);
        throwsDue("the buffer behind \"" + marked + "\"", IllegalArgumentException.class, () -> chain.load(1));
    }

    /** Asks one thing of a chain. */
    interface Question {
        Object ask(int k);
    }

    /** The answers for 0, 1, 2 .., and an exception for what lies outside of them. */
    static void row(String what, Question question, Class<? extends RuntimeException> outside, Object... want) {
        for (int k = 0; k < want.length; k++) {
            int at = k;
            due(what + " " + k, want[k], () -> question.ask(at));
        }
        for (int k : new int[] {-1, want.length, Integer.MAX_VALUE, Integer.MIN_VALUE}) {
            throwsDue(what + " " + k, outside, () -> question.ask(k));
        }
    }

    static void end() {
        System.out.println(checked + " checked, " + wrong + " wrong");
        if (wrong != 0) {
            System.exit(1);
        }
    }
}
