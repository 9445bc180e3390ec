import java.io.IOException;
import java.io.UncheckedIOException;
import java.lang.reflect.Field;
import java.lang.reflect.InvocationTargetException;
import java.lang.reflect.Method;
import java.lang.reflect.Modifier;
import java.nio.charset.StandardCharsets;
import java.nio.file.Files;
import java.nio.file.Path;
import java.util.ArrayList;
import java.util.Arrays;
import java.util.List;
import java.util.regex.Matcher;
import java.util.regex.Pattern;

/** README.md tells every call and constant, and its examples answer what stands behind them. */
public final class ReadmeTest {
    private static final String NEW = "FuzzyFinder x = new FuzzyFinder();";
    private static final Pattern EACH = Pattern.compile(
        "for \\(char c : \"([^\"]*)\"\\.toCharArray\\(\\)\\) \\{ x\\.(type|write)\\(c\\); \\}");
    private static final Pattern CALL = Pattern.compile("x\\.(\\w+)\\((.*?)\\);(?: *// ([-\\w]+)(?:: .*)?)?");

    public static void main(String[] args) {
        Sentences told = new Sentences("README");
        told.test("every call of the face is told", ReadmeTest::tellsCalls);
        told.test("every constant is told with its value", ReadmeTest::tellsConstants);
        told.test("the examples answer what it says", ReadmeTest::examplesHold);
        told.test("how to run the tests", check -> check.due(".ci/run", readme().contains("    .ci/run\n"), true));
        told.end();
    }

    private static String readme() {
        try {
            return Files.readString(Path.of("README.md"), StandardCharsets.UTF_8);
        } catch (IOException e) {
            throw new UncheckedIOException(e);
        }
    }

    private static List<Method> calls() {
        List<Method> calls = new ArrayList<>(Arrays.asList(FuzzyFinder.class.getDeclaredMethods()));
        calls.removeIf(call -> !Modifier.isPublic(call.getModifiers()));
        return calls;
    }

    private static void tellsCalls(Check check) {
        check.due("calls", calls().size(), 17);
        for (Method call : calls()) {
            String line = "\n- `" + call.getReturnType() + " " + call.getName() + "(";
            check.due("README tells " + call.getName(), readme().contains(line), true);
        }
        check.due("README tells the constructor", readme().contains("\n- `FuzzyFinder()`"), true);
    }

    private static void tellsConstants(Check check) {
        for (Field field : FuzzyFinder.class.getFields()) {
            String told = "`" + field.getName() + "` = " + valueOf(field.getName());
            check.due("README tells " + told, readme().contains(told), true);
        }
    }

    private static int valueOf(String constant) {
        switch (constant) {
            case "NONE":
                return FuzzyFinder.NONE;
            case "GOOD":
                return FuzzyFinder.GOOD;
            case "TOO_LONG":
                return FuzzyFinder.TOO_LONG;
            case "true":
                return 1;
            case "false":
                return 0;
            default:
                return Integer.parseInt(constant);
        }
    }

    private static void examplesHold(Check check) {
        FuzzyFinder x = new FuzzyFinder();
        boolean inside = false;
        int lines = 0;
        for (String line : readme().split("\n")) {
            if (line.startsWith("```")) {
                inside = line.equals("```java");
            } else if (inside) {
                lines++;
                if (line.equals(NEW)) {
                    x = new FuzzyFinder();
                } else {
                    runLine(check, x, line);
                }
            }
        }
        check.due("lines of examples", lines >= 40, true);
    }

    private static void runLine(Check check, FuzzyFinder x, String line) {
        Matcher each = EACH.matcher(line);
        Matcher call = CALL.matcher(line);
        if (each.matches()) {
            for (char c : each.group(1).toCharArray()) {
                check.due(line, each.group(2).equals("type") ? x.type(c) : x.write(c), true);
            }
        } else if (call.matches()) {
            Object answer = answerOf(x, call.group(1), call.group(2));
            String due = call.group(3);
            check.due(line + " tells an answer", due != null, answer != null);
            if (answer != null && due != null) {
                check.due(line + " answers a truth", answer instanceof Boolean, due.matches("true|false"));
                check.due(line, valueOf(answer.toString()), valueOf(due));
            }
        } else {
            check.fails("no line of an example: " + line);
        }
    }

    private static Object answerOf(FuzzyFinder x, String name, String numbers) {
        for (Method call : calls()) {
            if (call.getName().equals(name)) {
                return invoke(x, call, numbers.isEmpty() ? new String[0] : numbers.split(", "));
            }
        }
        throw new IllegalStateException("no call " + name);
    }

    private static Object invoke(FuzzyFinder x, Method call, String[] numbers) {
        Object[] arguments = new Object[numbers.length];
        for (int n = 0; n < numbers.length; n++) {
            Class<?> type = call.getParameterTypes()[n];
            if (type == char.class) {
                arguments[n] = numbers[n].charAt(1);
            } else if (type == boolean.class) {
                arguments[n] = Boolean.valueOf(numbers[n]);
            } else {
                arguments[n] = Integer.valueOf(numbers[n]);
            }
        }
        try {
            return call.invoke(x, arguments);
        } catch (IllegalAccessException | InvocationTargetException e) {
            throw new IllegalStateException(e);
        }
    }
}
