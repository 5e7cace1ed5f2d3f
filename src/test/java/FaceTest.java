import java.io.IOException;
import java.lang.reflect.Constructor;
import java.lang.reflect.Field;
import java.lang.reflect.Method;
import java.lang.reflect.Modifier;
import java.nio.charset.StandardCharsets;
import java.nio.file.Files;
import java.nio.file.Path;
import java.util.ArrayList;
import java.util.Arrays;
import java.util.Collections;
import java.util.List;

/** The face of the class, its constants, and those rules of LANGUAGE.md that a text can be searched for. */
public final class FaceTest {
    private static final String[] FACE = {"int append(int,int,int,int,int)", "int load(int)", "int errorOffset()",
        "int state(int)", "long account(int)", "int mass(int,int)", "int spring(int,int)", "int noted(int,int)",
        "int waiting(int,int)", "int foretold(int,int,int)", "int period(int,int)", "int breaksIn(int)",
        "int pieces()", "double centre()", "int pass(int)", "int pluck(int,int)", "int strike(int,int)",
        "int impulse(int,int,int)", "int stiffen(int,int)", "int mend(int)", "int move(boolean,int)", "int undo()",
        "long checksum()"};
    private static final String[] FORBIDDEN = {"->", "::", "finally", "synchronized", "assert ", "Exact", "Object",
        "catch", "var ", "System.", "Thread", "static {", "Double", "Float", "@"};

    public static void main(String[] args) throws IOException {
        constants();
        members();
        text(Files.readString(Path.of("src/main/java/SpringChain.java"), StandardCharsets.ISO_8859_1));
        Check.end();
    }

    private static void constants() {
        Check.due("SYNTAX_ERROR", -2, () -> SpringChain.SYNTAX_ERROR);
        Check.due("OUT_OF_RANGE", -3, () -> SpringChain.OUT_OF_RANGE);
        Check.due("REPEATED", -4, () -> SpringChain.REPEATED);
        Check.due("TOO_MANY", -5, () -> SpringChain.TOO_MANY);
    }

    private static void members() {
        Class<?> face = SpringChain.class;
        Check.due("public and final", Modifier.PUBLIC | Modifier.FINAL, face::getModifiers);
        List<String> open = new ArrayList<>();
        for (Method m : face.getDeclaredMethods()) {
            if (!Modifier.isPrivate(m.getModifiers()) && !m.isSynthetic()) {
                String types = String.join(",", Arrays.stream(m.getParameterTypes()).map(Class::getName).toList());
                open.add(m.getReturnType() + " " + m.getName() + "(" + types + ")");
            }
        }
        List<String> want = new ArrayList<>(List.of(FACE));
        Collections.sort(want);
        Collections.sort(open);
        Check.due("methods", want, () -> open);
        Check.due("constructors", "[public SpringChain()]",
                () -> Arrays.stream(face.getDeclaredConstructors()).map(Constructor::toString).toList());
        for (Field f : face.getDeclaredFields()) {
            boolean isConstant = List.of("SYNTAX_ERROR", "OUT_OF_RANGE", "REPEATED", "TOO_MANY").contains(f.getName());
            Check.due(f.getName() + " is open", isConstant, () -> !Modifier.isPrivate(f.getModifiers()));
            Check.due(f.getName() + " if static is final", true,
                    () -> !Modifier.isStatic(f.getModifiers()) || Modifier.isFinal(f.getModifiers()));
        }
        List<String> names = Arrays.stream(FACE).map(f -> f.split("[ (]")[1]).toList();
        for (Class<?> inside : face.getDeclaredClasses()) {
            for (Method m : inside.getDeclaredMethods()) {
                Check.due(m.getName() + " bears a name of the face", false, () -> names.contains(m.getName()));
            }
        }
    }

    private static void text(String text) {
        Check.due("signs beyond 127", true, () -> text.chars().allMatch(c -> c < 128));
        String code = text.replaceAll("(?s)/\\*.*?\\*/", "").replaceAll("//[^\n]*", "");
        for (String word : FORBIDDEN) {
            Check.due("the text holds " + word, false, () -> code.contains(word));
        }
        Check.due("imports", 1, () -> code.split("\nimport |^import ", -1).length - 1);
    }
}
