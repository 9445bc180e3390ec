import java.io.IOException;
import java.io.UncheckedIOException;
import java.lang.reflect.Constructor;
import java.lang.reflect.Field;
import java.lang.reflect.Member;
import java.lang.reflect.Method;
import java.lang.reflect.Modifier;
import java.nio.charset.StandardCharsets;
import java.nio.file.Files;
import java.nio.file.Path;
import java.util.ArrayList;
import java.util.Arrays;
import java.util.List;
import java.util.Set;
import java.util.TreeSet;

/** The class has the document's face and no more, and keeps away from what LANGUAGE.md forbids. */
public final class FaceTest {
    private static final Set<String> FACE = new TreeSet<>(Arrays.asList(
        "int NONE = -1", "int GOOD = -1", "int TOO_LONG = -2", "FuzzyFinder()",
        "boolean type(char)", "int compile()", "int nodes()", "boolean weights(int, int, int)",
        "boolean bound(int)", "boolean write(char)", "void erase()", "int cost(int, int)",
        "int find(boolean)", "int from()", "int to()", "int ends()", "int add()", "int words()",
        "int distance(int, boolean)", "int near(int, boolean)", "int rank(int, boolean)"));

    private static final String[] FORBIDDEN = {
        "import ", "throw ", "try ", "catch ", "finally", "->", "::", "\"", "synchronized",
        "assert ", "instanceof", "Exact", "while ", "package ", "protected ",
    };

    public static void main(String[] args) {
        Sentences told = new Sentences("the face");
        told.test("the class is public and final", FaceTest::isPublicAndFinal);
        told.test("constants, constructor and methods are the document's", FaceTest::isTheDocuments);
        told.test("classes inside are private and static", FaceTest::hidesItsClasses);
        told.test("no private method bears the name of a public one", FaceTest::namesAreFree);
        told.test("the source holds nothing that LANGUAGE.md forbids", FaceTest::keepsToTheLanguage);
        told.end();
    }

    private static void isPublicAndFinal(Check check) {
        check.due("modifiers", FuzzyFinder.class.getModifiers(), Modifier.PUBLIC | Modifier.FINAL);
    }

    private static void isTheDocuments(Check check) {
        Set<String> face = new TreeSet<>();
        for (Field field : FuzzyFinder.class.getDeclaredFields()) {
            if (isOfFace(check, field)) {
                face.add(field.getType() + " " + field.getName() + " = " + valueOf(field));
                check.due(field + " is final", Modifier.isFinal(field.getModifiers()), true);
            }
        }
        for (Constructor<?> constructor : FuzzyFinder.class.getDeclaredConstructors()) {
            if (isOfFace(check, constructor)) {
                face.add("FuzzyFinder" + parametersOf(constructor.getParameterTypes()));
            }
        }
        for (Method method : FuzzyFinder.class.getDeclaredMethods()) {
            if (isOfFace(check, method)) {
                face.add(method.getReturnType() + " " + method.getName() + parametersOf(method.getParameterTypes()));
            }
        }
        if (!face.equals(FACE)) {
            check.fails("the face is " + face);
        }
    }

    private static void hidesItsClasses(Check check) {
        for (Class<?> inside : FuzzyFinder.class.getDeclaredClasses()) {
            check.due(inside + " is private", Modifier.isPrivate(inside.getModifiers()), true);
            check.due(inside + " is static", Modifier.isStatic(inside.getModifiers()), true);
        }
    }

    private static void namesAreFree(Check check) {
        Set<String> names = new TreeSet<>();
        for (Method method : FuzzyFinder.class.getDeclaredMethods()) {
            if (Modifier.isPublic(method.getModifiers())) {
                names.add(method.getName());
            }
        }
        List<Class<?>> classes = new ArrayList<>(List.of(FuzzyFinder.class.getDeclaredClasses()));
        classes.add(FuzzyFinder.class);
        for (Class<?> owner : classes) {
            for (Method method : owner.getDeclaredMethods()) {
                boolean isHidden = !Modifier.isPublic(method.getModifiers());
                check.due(method + " has a name of its own", !isHidden || !names.contains(method.getName()), true);
            }
        }
    }

    /** Whether others can see it; such a member has to be public. */
    private static boolean isOfFace(Check check, Member member) {
        if (member.isSynthetic() || Modifier.isPrivate(member.getModifiers())) {
            return false;
        }
        check.due(member + " is public", Modifier.isPublic(member.getModifiers()), true);
        return true;
    }

    private static Object valueOf(Field field) {
        try {
            return Modifier.isStatic(field.getModifiers()) ? field.get(null) : "not static";
        } catch (IllegalAccessException e) {
            return "not to be seen";
        }
    }

    private static String parametersOf(Class<?>[] types) {
        return Arrays.toString(types).replace('[', '(').replace(']', ')');
    }

    private static void keepsToTheLanguage(Check check) {
        String source = source();
        check.due("signs beyond 127", source.chars().filter(c -> c > 127).count(), 0);
        for (String words : FORBIDDEN) {
            check.due("the source holds " + words, source.contains(words), false);
        }
    }

    private static String source() {
        try {
            return Files.readString(Path.of("src/main/java/FuzzyFinder.java"), StandardCharsets.ISO_8859_1);
        } catch (IOException e) {
            throw new UncheckedIOException(e);
        }
    }
}
