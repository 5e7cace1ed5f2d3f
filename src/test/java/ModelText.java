import java.math.BigInteger;
import java.util.ArrayList;
import java.util.Comparator;
import java.util.HashSet;
import java.util.List;
import java.util.Set;
import java.util.regex.Matcher;
import java.util.regex.Pattern;

/** The setup text for the model: cut into tokens first, every fault collected, the first one taken. */
final class ModelText {
    private static final Pattern TOKEN = Pattern.compile("[0-9]+|[a-z]+|[^ ]", Pattern.DOTALL);

    /** Ends the reading where the grammar does; the other faults let it go on. */
    private static final class Stop extends Exception {
        private static final long serialVersionUID = 1L;
    }

    Model.World world = new Model.World(1);
    private final List<String> tokens = new ArrayList<>();
    private final List<Integer> starts = new ArrayList<>();
    private final List<Model.Fault> faults = new ArrayList<>();
    private int next = 0;

    ModelText(String text) {
        Matcher m = TOKEN.matcher(text);
        while (m.find()) {
            tokens.add(m.group());
            starts.add(m.start());
        }
        tokens.add("");
        starts.add(text.length());
        try {
            setup();
        } catch (Stop stop) {
            // The fault that stopped the reading is among the faults.
        }
    }

    Model.Fault firstFault() {
        List<Integer> order = List.of(SpringChain.SYNTAX_ERROR, SpringChain.OUT_OF_RANGE, SpringChain.REPEATED,
                SpringChain.TOO_MANY);
        return faults.stream()
                .min(Comparator.comparingInt(Model.Fault::offset).thenComparingInt(f -> order.indexOf(f.code())))
                .orElse(null);
    }

    private String seen() {
        return tokens.get(next);
    }

    private int here() {
        return starts.get(next);
    }

    private void fault(int code, int offset) {
        faults.add(new Model.Fault(offset, code));
    }

    private Stop syntax() {
        fault(SpringChain.SYNTAX_ERROR, here());
        return new Stop();
    }

    private void token(String wanted) throws Stop {
        if (!seen().equals(wanted)) {
            throw syntax();
        }
        next++;
    }

    private BigInteger digits() throws Stop {
        if (!seen().matches("[0-9]+")) {
            throw syntax();
        }
        return new BigInteger(tokens.get(next++));
    }

    private int ranged(BigInteger n, int least, int most, int offset) {
        if (n.compareTo(BigInteger.valueOf(least)) < 0 || n.compareTo(BigInteger.valueOf(most)) > 0) {
            fault(SpringChain.OUT_OF_RANGE, offset);
            return Math.max(0, least);
        }
        return n.intValue();
    }

    private int number(int least, int most) throws Stop {
        int offset = here();
        return ranged(digits(), least, most, offset);
    }

    private int sign(int most) throws Stop {
        int offset = here();
        boolean minus = seen().equals("-");
        next += minus ? 1 : 0;
        BigInteger n = digits();
        return ranged(minus ? n.negate() : n, -most, most, offset);
    }

    private int massOnce(Set<Integer> seen) throws Stop {
        int offset = here();
        int mass = number(0, world.masses.size() - 1);
        if (!seen.add(mass)) {
            fault(SpringChain.REPEATED, offset);
        }
        return mass;
    }

    private void setup() throws Stop {
        token("chain");
        world = new Model.World(number(1, 12));
        token(";");
        Set<Integer> plucked = new HashSet<>();
        Set<Integer> struck = new HashSet<>();
        boolean damped = false;
        while (!seen().isEmpty()) {
            int start = here();
            if (seen().equals("damp")) {
                if (damped) {
                    throw syntax();
                }
                damped = true;
            }
            String word = tokens.get(next++);
            int last = world.masses.size() - 1;
            switch (word) {
                case "mass" -> world.masses.get(number(0, last)).weight = number(1, 99);
                case "masses" -> {
                    int weight = number(1, 99);
                    world.masses.forEach(m -> m.weight = weight);
                }
                case "spring" -> {
                    Model.Spring spring = world.springs.get(number(0, last + 1));
                    spring.stiffness = number(0, 999);
                    spring.limit = 0;
                    if (seen().equals("limit")) {
                        next++;
                        spring.limit = number(0, 99999);
                    }
                }
                case "springs" -> {
                    int stiffness = number(0, 999);
                    world.springs.forEach(s -> s.stiffness = stiffness);
                }
                case "damp" -> world.damping = number(0, 999);
                case "pluck" -> world.masses.get(massOnce(plucked)).at = sign(10000);
                case "strike" -> world.strike(massOnce(struck), sign(100000));
                case "end" -> {
                    boolean right = seen().equals("right");
                    if (!right) {
                        token("left");
                        world.left = sign(100000);
                    } else {
                        token("right");
                        world.right = sign(100000);
                    }
                }
                case "impulse" -> impulse(start);
                default -> {
                    next--;
                    throw syntax();
                }
            }
            token(";");
        }
    }

    private void impulse(int start) throws Stop {
        if (world.told.size() == 16) {
            fault(SpringChain.TOO_MANY, start);
        }
        int tick = number(0, 9999);
        int mass = number(0, world.masses.size() - 1);
        int strengthAt = here();
        int strength = sign(9999);
        if (strength == 0) {
            fault(SpringChain.OUT_OF_RANGE, strengthAt);
        }
        world.told.add(new Model.Impulse(tick, mass, strength));
    }
}
