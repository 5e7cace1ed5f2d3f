import java.io.IOException;
import java.lang.reflect.Constructor;
import java.lang.reflect.Field;
import java.lang.reflect.Method;
import java.lang.reflect.Modifier;
import java.nio.charset.StandardCharsets;
import java.nio.file.Files;
import java.nio.file.Path;
import java.util.ArrayList;
import java.util.Arrays;
import java.util.Collections;
import java.util.List;

/** The face of the class, its constants, what README.md tells of them, and words that LANGUAGE.md leaves out. */
public final class FaceTest {
    private static final String[] FACE = {"int append(int,int,int,int,int)", "int load(int)", "int errorOffset()",
        "int state(int)", "long account(int)", "int mass(int,int)", "int spring(int,int)", "int noted(int,int)",
        "int waiting(int,int)", "int foretold(int,int,int)", "int period(int,int)", "int breaksIn(int)",
        "int pieces()", "double centre()", "int pass(int)", "int pluck(int,int)", "int strike(int,int)",
        "int impulse(int,int,int)", "int stiffen(int,int)", "int mend(int)", "int move(boolean,int)", "int undo()",
        "long checksum()"};
    private static final String[] FORBIDDEN = {"->", "::", "finally", "synchronized", "assert ", "Exact", "Object",
        "catch", "var ", "System.", "Thread", "static {", "Double", "Float", "@"};

    public static void main(String[] args) throws IOException {
        String program = Files.readString(Path.of("src/main/java/SpringChain.java"), StandardCharsets.ISO_8859_1);
        constants();
        members();
        declarations(program);
        text(program);
        readme(Files.readString(Path.of("README.md"), StandardCharsets.UTF_8));
        Check.end();
    }

    private static void constants() {
        Check.due("SYNTAX_ERROR", -2, () -> SpringChain.SYNTAX_ERROR);
        Check.due("OUT_OF_RANGE", -3, () -> SpringChain.OUT_OF_RANGE);
        Check.due("REPEATED", -4, () -> SpringChain.REPEATED);
        Check.due("TOO_MANY", -5, () -> SpringChain.TOO_MANY);
    }

    private static void members() {
        Class<?> face = SpringChain.class;
        Check.due("public and final", Modifier.PUBLIC | Modifier.FINAL, face::getModifiers);
        List<String> open = new ArrayList<>();
        for (Method m : face.getDeclaredMethods()) {
            if (!Modifier.isPrivate(m.getModifiers()) && !m.isSynthetic()) {
                String types = String.join(",", Arrays.stream(m.getParameterTypes()).map(Class::getName).toList());
                open.add(m.getReturnType() + " " + m.getName() + "(" + types + ")");
            }
        }
        List<String> want = new ArrayList<>(List.of(FACE));
        Collections.sort(want);
        Collections.sort(open);
        Check.due("methods", want, () -> open);
        Check.due("constructors", "[public SpringChain()]",
                () -> Arrays.stream(face.getDeclaredConstructors()).map(Constructor::toString).toList());
        for (Field f : face.getDeclaredFields()) {
            boolean isConstant = List.of("SYNTAX_ERROR", "OUT_OF_RANGE", "REPEATED", "TOO_MANY").contains(f.getName());
            Check.due(f.getName() + " is open", isConstant, () -> !Modifier.isPrivate(f.getModifiers()));
            Check.due(f.getName() + " if static is final", true,
                    () -> !Modifier.isStatic(f.getModifiers()) || Modifier.isFinal(f.getModifiers()));
        }
        List<String> names = Arrays.stream(FACE).map(f -> f.split("[ (]")[1]).toList();
        for (Class<?> inside : face.getDeclaredClasses()) {
            for (Method m : inside.getDeclaredMethods()) {
                Check.due(m.getName() + " bears a name of the face", false, () -> names.contains(m.getName()));
            }
        }
    }

    /** Each line of the document's face stands in the program, with its parameters' names and exceptions. */
    private static void declarations(String program) {
        String plain = program.replaceAll("\\s+", " ");
        Check.due("the face of the document has 30 lines, if the document is there", true,
                () -> Doc.face().isEmpty() || Doc.face().size() == 30);
        for (String line : Doc.face()) {
            boolean isMethod = line.contains("(");
            String want = isMethod ? line.replaceAll(";$", " {") : line;
            Check.due("the program has " + want, true, () -> plain.contains(want));
        }
    }

    /** README.md tells of each method of the face, with its parameters, and of each constant. */
    private static void readme(String readme) {
        for (String line : Doc.face()) {
            if (line.startsWith("public ") && line.contains("(")) {
                String name = line.replaceAll("\\(.*", "").replaceAll(".* ", "");
                String names = line.replaceAll(".*\\((.*)\\).*", "$1").replaceAll("\\w+ (\\w+)", "$1");
                String told = name.equals("append") ? "w0, .., w4" : names;
                Check.due("README.md tells of " + name, true, () -> readme.contains("| `" + name + "(" + told + ")` | "));
            } else if (line.startsWith("public static")) {
                String name = line.replaceAll(" =.*", "").replaceAll(".* ", "");
                Check.due("README.md tells of " + name, true, () -> readme.contains("`" + name + "`"));
            }
        }
        Check.due("README.md tells how the tests are run", true, () -> readme.contains("\n.ci/run\n"));
    }

    private static void text(String text) {
        Check.due("signs beyond 127", true, () -> text.chars().allMatch(c -> c < 128));
        String code = text.replaceAll("(?s)/\\*.*?\\*/", "").replaceAll("//[^\n]*", "");
        for (String word : FORBIDDEN) {
            Check.due("the text holds " + word, false, () -> code.contains(word));
        }
        Check.due("imports", 1, () -> code.split("\nimport |^import ", -1).length - 1);
    }
}
