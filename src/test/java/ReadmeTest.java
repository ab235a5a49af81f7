import java.io.IOException;
import java.lang.reflect.InvocationTargetException;
import java.lang.reflect.Method;
import java.lang.reflect.Modifier;
import java.nio.file.Files;
import java.nio.file.Path;
import java.util.Set;
import java.util.TreeSet;
import java.util.regex.Matcher;
import java.util.regex.Pattern;

/** The README's example answers as its comments say, and its tables tell every call of the face. */
final class ReadmeTest {
    private static final Check check = new Check("ReadmeTest");
    private static final Pattern EXAMPLE = Pattern.compile("(?s)```java\n(.*?)```");
    private static final Pattern CALL = Pattern.compile("board\\.(\\w+)\\((.*?)\\);\\s*(?:// (.*))?");
    /** An answer stands first in the comment, alone or before a colon. */
    private static final Pattern ANSWER = Pattern.compile("(-?\\d+|true|false)(?::.*)?");
    private static final Pattern ROW = Pattern.compile("(?m)^\\| `(\\w+)\\((.*?)\\)` \\| .* \\|(.*)\\|$");

    public static void main(String[] args) throws IOException, ReflectiveOperationException {
        String readme = Files.readString(Path.of("README.md"));
        exampleAnswersAsItSays(readme);
        tablesTellEveryCall(readme);
        check.end();
    }

    private static void exampleAnswersAsItSays(String readme) throws ReflectiveOperationException {
        Matcher example = EXAMPLE.matcher(readme);
        check.same("there is an example", example.find(), true);
        String[] lines = example.group(1).split("\n");
        check.same("its first line", lines[0], "ChoiceBoard board = new ChoiceBoard();");
        ChoiceBoard board = new ChoiceBoard();
        for (int i = 1; i < lines.length; i++) {
            Matcher call = CALL.matcher(lines[i]);
            if (call.matches()) {
                run(board, lines[i], call);
            } else {
                check.same("a call or a comment: " + lines[i], lines[i].matches("(//.*)?"), true);
            }
        }
    }

    private static void run(ChoiceBoard board, String line, Matcher call) throws ReflectiveOperationException {
        Method method = method(call.group(1));
        Object[] arguments = arguments(method, call.group(2));
        Object got;
        try {
            got = method.invoke(board, arguments);
        } catch (InvocationTargetException e) {
            got = e.getCause();
        }
        if (method.getReturnType() != void.class) {
            Matcher answer = ANSWER.matcher(String.valueOf(call.group(3)));
            check.same(line, String.valueOf(got), answer.matches() ? answer.group(1) : "an answer in the comment");
        } else {
            check.same(line, String.valueOf(got), "null");
        }
    }

    private static Method method(String name) {
        for (Method method : ChoiceBoard.class.getDeclaredMethods()) {
            if (Modifier.isPublic(method.getModifiers()) && method.getName().equals(name)) {
                return method;
            }
        }
        throw new AssertionError("README.md calls " + name + ", which is no call of the face");
    }

    private static Object[] arguments(Method method, String written) {
        Class<?>[] types = method.getParameterTypes();
        Object[] arguments = new Object[types.length];
        String[] parts = written.split(", ");
        for (int i = 0; i < types.length; i++) {
            boolean truth = types[i] == boolean.class;
            arguments[i] = truth ? (Object) Boolean.valueOf(parts[i]) : (Object) Integer.valueOf(parts[i]);
        }
        return arguments;
    }

    /** A row names the call, its parameters, and what it throws in the document's order. */
    private static void tablesTellEveryCall(String readme) {
        Set<String> told = new TreeSet<>();
        Matcher row = ROW.matcher(readme);
        while (row.find()) {
            Method method = method(row.group(1));
            told.add(row.group(1));
            int parameters = row.group(2).isEmpty() ? 0 : row.group(2).split(", ").length;
            check.same(row.group(1) + ": parameters", parameters, method.getParameterCount());
            check.same(row.group(1) + ": exceptions", exceptions(row.group(3)), exceptions(method));
        }
        Set<String> face = new TreeSet<>();
        for (Method method : ChoiceBoard.class.getDeclaredMethods()) {
            if (Modifier.isPublic(method.getModifiers())) {
                face.add(method.getName());
            }
        }
        check.same("the calls that the tables tell", told, face);
    }

    private static String exceptions(String cell) {
        StringBuilder names = new StringBuilder();
        Matcher name = Pattern.compile("`(\\w+Exception)`").matcher(cell);
        while (name.find()) {
            names.append(name.group(1)).append(' ');
        }
        return names.toString();
    }

    private static String exceptions(Method method) {
        StringBuilder names = new StringBuilder();
        for (Class<?> thrown : method.getExceptionTypes()) {
            names.append(thrown.getSimpleName()).append(' ');
        }
        return names.toString();
    }
}
