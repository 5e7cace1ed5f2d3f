import java.nio.charset.StandardCharsets;
import java.util.ArrayList;
import java.util.Arrays;
import java.util.HashSet;
import java.util.List;
import java.util.Random;
import java.util.Set;

/** Runs of 512 drawn calls (always the same ones), each answer compared with the model's. */
public final class ModelTest {
    private static final int CALLS = 512;
    private static final Set<String> REACHED = new HashSet<>();
    private static final String BRITTLE = "chain 3;spring 0 9 limit 90;spring 1 99 limit 50;spring 2 60 limit 70;"
            + "spring 3 20 limit 30;";
    /** What the runs must come to, so that they don't agree by asking nothing. */
    private static final String[] WANTED = {"load -2", "load -3", "load -4", "load -5", "load throws", "lost",
        "32 patterns", "far", "late", "impulse throws.IllegalStateException", "mend throws.IllegalStateException",
        "mend", "undo 7", "undo -1", "append -1", "breaksIn", "period"};
    private static final int[] EDGES = {0, 1, 2, 3, 9, 10, 12, 13, 49, 50, 98, 99, 100, 999, 1000, 9999, 10000, 10001,
        99999, 100000, 100001};

    /** What a run is full of. */
    private enum Mood { ALL, LONG, IMPULSES, BREAKING, GREAT, PUMPED }

    private final Random random;
    private final Mood mood;
    private final SpringChain chain = new SpringChain();
    private final Model model = new Model();
    private final List<String> told = new ArrayList<>();
    private int calls = 0;

    private ModelTest(long seed) {
        random = new Random(seed);
        mood = Mood.values()[(int) (seed % Mood.values().length)];
    }

    public static void main(String[] args) {
        int runs = args.length > 0 ? Integer.parseInt(args[0]) : 600;
        for (int run = 0; run < runs; run++) {
            if (!new ModelTest(run).agrees()) {
                System.out.println("in run " + run);
                System.exit(1);
            }
        }
        List<String> missing = new ArrayList<>(List.of(WANTED));
        missing.removeAll(REACHED);
        if (!missing.isEmpty()) {
            System.out.println("the runs never came to " + missing);
            System.exit(1);
        }
        System.out.println(runs + " runs of " + CALLS + " calls agree with the model");
    }

    private int below(int n) {
        return random.nextInt(n);
    }

    private boolean chance(int percent) {
        return below(100) < percent;
    }

    private boolean agrees() {
        while (calls < CALLS) {
            if (!step()) {
                told.subList(Math.max(0, told.size() - 40), told.size()).forEach(System.out::println);
                return false;
            }
        }
        return true;
    }

    private boolean step() {
        if (calls == 0 && !firstText().isEmpty()) {
            return loadText(firstText());
        }
        switch (mood) {
            case LONG:
                return chance(55) ? same("pass", chance(90) ? 50 : 1 + below(50)) : any();
            case IMPULSES:
                return chance(40) ? same("impulse", (int) model.world.time + below(90), mass(), 1 + below(900))
                        : chance(20) ? same("waiting", below(17), below(3)) : any();
            case BREAKING:
                return chance(6) ? loadText(BRITTLE + "strike 1 " + below(3000) + ";") : any();
            case GREAT:
                return chance(20) ? same("pass", 50)
                        : chance(10) ? same("strike", mass(), chance(50) ? 100000 : -100000) : any();
            case PUMPED:
                return chance(90) ? same("pluck", 0, -10000) && same("pass", 1) : any();
            default:
                return any();
        }
    }

    private String firstText() {
        switch (mood) {
            case LONG:
                return "chain 12;springs 40;mass 3 25;pluck 2 -900;strike 7 20000;impulse 9000 4 500;";
            case GREAT:
                return "chain 12;masses 1;springs 999;pluck 0 9999;";
            case PUMPED:
                return "chain 1;masses 99;springs 999;end left 100000;end right 100000;";
            default:
                return "";
        }
    }

    private boolean any() {
        int kind = below(100);
        if (kind < (mood == Mood.ALL || mood == Mood.BREAKING ? 4 : 1) && mood != Mood.PUMPED) {
            return loadText(below(8) == 0 ? broken(setup()) : setup());
        }
        if (kind < 12) {
            return same("pass", chance(5) ? below(60) - 3 : 1 + below(chance(50) ? 3 : 50));
        }
        if (kind < 19) {
            return same("pluck", mass(), around(10000));
        }
        if (kind < 25) {
            return same("strike", mass(), around(100000));
        }
        if (kind < 35) {
            return same("impulse", (int) model.world.time + below(12) - 1, mass(), around(9999));
        }
        if (kind < 40) {
            return same("stiffen", spring(), chance(20) ? 0 : chance(10) ? below(1100) - 50 : below(1000));
        }
        if (kind < 46) {
            return same("mend", spring());
        }
        if (kind < 50) {
            return same("move", below(2), around(100000));
        }
        if (kind < 57) {
            return same("undo");
        }
        if (kind < 58) {
            return same("append", random.nextInt(), random.nextInt(), random.nextInt(), random.nextInt(),
                    random.nextInt());
        }
        if (kind < 59) {
            return same("load", below(60) - 10);
        }
        return ask(kind);
    }

    private boolean ask(int kind) {
        if (kind < 64) {
            return same("foretold", chance(5) ? below(220) - 5 : 1 + below(200), mass(), below(6) - (chance(5) ? 1 : 0));
        }
        if (kind < 69) {
            return same("period", mass(), chance(5) ? below(320) - 5 : 1 + below(300));
        }
        if (kind < 72) {
            return same("breaksIn", chance(5) ? below(220) - 5 : 1 + below(200));
        }
        if (kind < 76) {
            return same("noted", below(34) - 1, below(4) - 1);
        }
        if (kind < 80) {
            return same("waiting", below(18) - 1, below(5) - 1);
        }
        if (kind < 83) {
            return same("mass", mass(), below(6) - 1);
        }
        if (kind < 86) {
            return same("spring", spring(), below(7) - 1);
        }
        if (kind < 88) {
            return same("state", below(14) - 1);
        }
        if (kind < 90) {
            return same("account", below(10) - 1);
        }
        if (kind < 92) {
            return same("pieces");
        }
        if (kind < 94) {
            return same("centre");
        }
        return kind < 95 ? same("errorOffset") : same("checksum");
    }

    private int mass() {
        return chance(4) ? below(16) - 2 : below(model.world.masses.size());
    }

    private int spring() {
        return chance(4) ? below(16) - 2 : below(model.world.springs.size());
    }

    private int around(int bound) {
        int kind = below(10);
        int n = kind == 0 ? 0 : kind < 5 ? below(300) : kind < 7 ? bound : kind == 7 ? bound + 1 : below(bound);
        return chance(50) ? -n : n;
    }

    private boolean loadText(String text) {
        byte[] bytes = Arrays.copyOf(text.getBytes(StandardCharsets.ISO_8859_1), (text.length() + 19) / 20 * 20);
        if (bytes.length > 500) {
            return true;
        }
        for (int at = 0; at < bytes.length; at += 20) {
            java.nio.IntBuffer words = java.nio.ByteBuffer.wrap(bytes, at, 20).asIntBuffer();
            if (!same("append", words.get(0), words.get(1), words.get(2), words.get(3), words.get(4))) {
                return false;
            }
        }
        told.add("text: " + text);
        return same("load", text.length()) && same("errorOffset") && same("checksum");
    }

    private String space() {
        return chance(20) ? " ".repeat(1 + below(2)) : "";
    }

    private String number(int most) {
        int kind = below(40);
        if (kind == 0) {
            return String.valueOf(EDGES[below(EDGES.length)]);
        }
        if (kind == 1) {
            return "00" + below(most + 1);
        }
        if (kind == 2) {
            return String.valueOf(most + (chance(30) ? 1 : 0));
        }
        if (kind == 3 && chance(10)) {
            return "9".repeat(1 + below(30));
        }
        return String.valueOf(below(most + 1));
    }

    private String sign(int most) {
        return (chance(40) ? "-" + space() : "") + number(chance(60) ? Math.min(most, 400) : most);
    }

    private String setup() {
        int n = chance(5) ? below(15) : 1 + below(12);
        StringBuilder text = new StringBuilder(space() + "chain " + space() + n + space() + ";");
        for (int k = chance(4) ? 15 + below(3) : 0; k > 0; k--) {
            text.append("impulse ").append(below(30)).append(" 0 5;");
        }
        int statements = chance(10) ? below(30) : below(12);
        for (int k = 0; k < statements; k++) {
            String one = space() + statement(Math.max(1, n)) + space() + ";";
            if (text.length() + one.length() > 480) {
                break;
            }
            text.append(one);
        }
        return text + space();
    }

    private String statement(int n) {
        int last = chance(3) ? n : n - 1;
        switch (below(12)) {
            case 0:
                return "mass" + space() + number(last) + " " + (1 + below(chance(5) ? 100 : 99));
            case 1:
                return "masses " + space() + (1 + below(chance(5) ? 100 : 99));
            case 2:
            case 3:
                return "spring" + space() + number(last + 1) + " " + number(999) + space()
                        + (chance(70) ? "limit" + space() + number(chance(80) ? 800 : 99999) : "");
            case 4:
                return "springs" + space() + number(chance(70) ? 200 : 999);
            case 5:
                return chance(50) ? "damp " + number(chance(60) ? 100 : 999) : "spring 0 5";
            case 6:
            case 7:
                return "pluck " + number(last) + " " + space() + sign(10000);
            case 8:
                return "strike" + space() + number(last) + " " + sign(100000);
            case 9:
                return "end" + " " + (chance(50) ? "left" : "right") + space() + sign(100000);
            default:
                return "impulse" + space() + number(chance(80) ? 20 : 9999) + " " + number(last) + " " + sign(9999);
        }
    }

    private String broken(String text) {
        StringBuilder changed = new StringBuilder(text);
        for (int k = below(2); k >= 0 && changed.length() > 0; k--) {
            int at = below(changed.length());
            switch (below(4)) {
                case 0 -> changed.deleteCharAt(at);
                case 1 -> changed.setCharAt(at, (char) below(256));
                case 2 -> changed.insert(at, " -;0x9a\t".charAt(below(8)));
                default -> changed.setLength(at);
            }
        }
        return changed.toString();
    }

    private boolean same(String name, int... a) {
        if (calls >= CALLS) {
            return true;
        }
        calls++;
        String got = Check.outcome(() -> onProgram(name, a));
        String want = Check.outcome(() -> model.call(name, a));
        told.add(name + Arrays.toString(a) + " -> " + got + (got.equals(want) ? "" : ", due is " + want));
        reach(name, want);
        return got.equals(want);
    }

    private void reach(String name, String answer) {
        if (answer.startsWith("throws")) {
            REACHED.add(name + " " + answer);
            REACHED.add(name + " throws");
        } else if (name.equals("load") || name.equals("undo") || name.equals("append") && answer.equals("-1")) {
            REACHED.add(name + " " + answer);
        } else if (!answer.equals("-1")) {
            REACHED.add(name);
        }
        if (name.equals("pass")) {
            REACHED.add(model.world.account[5] != 0 ? "lost" : "");
            REACHED.add(model.world.noted.size() == 32 ? "32 patterns" : "");
            REACHED.add(model.world.masses.get(0).at == 1000000 ? "far" : "");
            REACHED.add(model.world.time > 9999 ? "late" : "");
        }
    }

    private Object onProgram(String name, int[] a) {
        switch (name) {
            case "append":
                return chain.append(a[0], a[1], a[2], a[3], a[4]);
            case "load":
                return chain.load(a[0]);
            case "errorOffset":
                return chain.errorOffset();
            case "state":
                return chain.state(a[0]);
            case "account":
                return chain.account(a[0]);
            case "mass":
                return chain.mass(a[0], a[1]);
            case "spring":
                return chain.spring(a[0], a[1]);
            case "noted":
                return chain.noted(a[0], a[1]);
            case "waiting":
                return chain.waiting(a[0], a[1]);
            case "foretold":
                return chain.foretold(a[0], a[1], a[2]);
            case "period":
                return chain.period(a[0], a[1]);
            case "breaksIn":
                return chain.breaksIn(a[0]);
            case "pieces":
                return chain.pieces();
            case "centre":
                return chain.centre();
            case "pass":
                return chain.pass(a[0]);
            case "pluck":
                return chain.pluck(a[0], a[1]);
            case "strike":
                return chain.strike(a[0], a[1]);
            case "impulse":
                return chain.impulse(a[0], a[1], a[2]);
            case "stiffen":
                return chain.stiffen(a[0], a[1]);
            case "mend":
                return chain.mend(a[0]);
            case "move":
                return chain.move(a[0] != 0, a[1]);
            case "undo":
                return chain.undo();
            default:
                return chain.checksum();
        }
    }
}
