import java.io.IOException;
import java.lang.reflect.Constructor;
import java.lang.reflect.Field;
import java.lang.reflect.Member;
import java.lang.reflect.Method;
import java.lang.reflect.Modifier;
import java.nio.charset.StandardCharsets;
import java.nio.file.Files;
import java.nio.file.Path;
import java.util.Arrays;
import java.util.Set;
import java.util.TreeSet;

/** The class has the document's face and no more, and keeps away from what LANGUAGE.md forbids. */
public final class FaceTest {
    private static final Set<String> FACE = new TreeSet<>(Arrays.asList(
        "int NONE = -1", "int GOOD = -1", "int TOO_LONG = -2", "FuzzyFinder()",
        "boolean type(char)", "int compile()", "int nodes()", "boolean weights(int, int, int)",
        "boolean bound(int)", "boolean write(char)", "void erase()", "int cost(int, int)",
        "int find(boolean)", "int from()", "int to()", "int ends()", "int add()", "int words()",
        "int distance(int, boolean)", "int near(int, boolean)", "int rank(int, boolean)"));

    private static final String[] FORBIDDEN = {
        "import ", "throw ", "try ", "catch ", "finally", "->", "::", "\"", "synchronized",
        "assert ", "instanceof", "Exact", "while ", "package ", "protected ",
    };

    private static final Check CHECK = new Check();

    public static void main(String[] args) throws Exception {
        CHECK.due("the class is public and final", FuzzyFinder.class.getModifiers(), Modifier.PUBLIC | Modifier.FINAL);
        Set<String> face = new TreeSet<>();
        for (Field field : FuzzyFinder.class.getDeclaredFields()) {
            if (isOfFace(field)) {
                face.add(field.getType() + " " + field.getName() + " = " + field.get(null));
                CHECK.due(field + " is a constant", Modifier.isStatic(field.getModifiers()), true);
                CHECK.due(field + " is final", Modifier.isFinal(field.getModifiers()), true);
            }
        }
        for (Constructor<?> constructor : FuzzyFinder.class.getDeclaredConstructors()) {
            if (isOfFace(constructor)) {
                face.add("FuzzyFinder" + parametersOf(constructor.getParameterTypes()));
            }
        }
        for (Method method : FuzzyFinder.class.getDeclaredMethods()) {
            if (isOfFace(method)) {
                face.add(method.getReturnType() + " " + method.getName() + parametersOf(method.getParameterTypes()));
            }
        }
        if (!face.equals(FACE)) {
            System.out.println("the face is " + face);
        }
        CHECK.due("the face is the document's", face.equals(FACE), true);
        for (Class<?> inside : FuzzyFinder.class.getDeclaredClasses()) {
            CHECK.due(inside + " is private", Modifier.isPrivate(inside.getModifiers()), true);
            CHECK.due(inside + " is static", Modifier.isStatic(inside.getModifiers()), true);
        }
        checkSource();
        CHECK.end();
    }

    /** Whether others can see it; such a member has to be public. */
    private static boolean isOfFace(Member member) {
        if (member.isSynthetic() || Modifier.isPrivate(member.getModifiers())) {
            return false;
        }
        CHECK.due(member + " is public", Modifier.isPublic(member.getModifiers()), true);
        return true;
    }

    private static String parametersOf(Class<?>[] types) {
        return Arrays.toString(types).replace('[', '(').replace(']', ')');
    }

    private static void checkSource() throws IOException {
        String source = Files.readString(Path.of("src/main/java/FuzzyFinder.java"), StandardCharsets.ISO_8859_1);
        CHECK.due("signs beyond 127", source.chars().filter(c -> c > 127).count(), 0);
        for (String words : FORBIDDEN) {
            CHECK.due("the source holds " + words, source.contains(words), false);
        }
    }
}
