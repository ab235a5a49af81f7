import java.lang.reflect.Constructor;
import java.lang.reflect.Field;
import java.lang.reflect.Method;
import java.lang.reflect.Modifier;
import java.util.Arrays;
import java.util.HashSet;
import java.util.Set;
import java.util.TreeSet;

/** The public face is the document's, with nothing beside it. */
final class FaceTest {
    private static final Check check = new Check("FaceTest");

    private static final String[] FACE = {
        "void term(int, int) IllegalArgumentException",
        "void clear()",
        "int require(int, int) IllegalArgumentException IllegalStateException",
        "void objective() IllegalStateException",
        "int constraints()",
        "int constraint(int, int) NoSuchElementException IllegalArgumentException",
        "int close(int, int) IllegalArgumentException",
        "void load(int) NoSuchElementException IllegalStateException",
        "void axiom(int, boolean) NoSuchElementException IllegalStateException",
        "void add() IllegalStateException ArithmeticException",
        "void times(int) IllegalStateException IllegalArgumentException ArithmeticException",
        "void divide(int) IllegalStateException IllegalArgumentException",
        "void saturate() IllegalStateException",
        "void weaken(int) IllegalStateException NoSuchElementException",
        "void drop() IllegalStateException",
        "int top(int) IllegalArgumentException IllegalStateException",
        "int learn() IllegalStateException",
        "int contradict(int) IllegalArgumentException IllegalStateException",
        "boolean found(int) IllegalArgumentException IllegalStateException",
        "int verdict()",
        "int best() NoSuchElementException",
        "int solve()",
        "int least() NoSuchElementException",
        "int value(int) NoSuchElementException IllegalArgumentException",
    };

    public static void main(String[] args) {
        check.same("modifiers", Modifier.toString(ChoiceBoard.class.getModifiers()), "public final");
        methodsAreTheDocuments();
        allElseIsPrivate();
        check.end();
    }

    private static void methodsAreTheDocuments() {
        Set<String> seen = new TreeSet<>();
        for (Method method : ChoiceBoard.class.getDeclaredMethods()) {
            if (!Modifier.isPrivate(method.getModifiers())) {
                check.same(method.getName() + " modifiers", Modifier.toString(method.getModifiers()), "public");
                seen.add(written(method));
            }
        }
        check.same("methods", seen, new TreeSet<>(Arrays.asList(FACE)));
    }

    private static String written(Method method) {
        StringBuilder text = new StringBuilder();
        text.append(method.getReturnType().getSimpleName()).append(' ').append(method.getName()).append('(');
        for (Class<?> type : method.getParameterTypes()) {
            text.append(text.charAt(text.length() - 1) == '(' ? "" : ", ").append(type.getSimpleName());
        }
        text.append(')');
        for (Class<?> thrown : method.getExceptionTypes()) {
            text.append(' ').append(thrown.getSimpleName());
        }
        return text.toString();
    }

    private static void allElseIsPrivate() {
        Set<String> publicNames = new HashSet<>();
        for (Method method : ChoiceBoard.class.getMethods()) {
            publicNames.add(method.getName());
        }
        for (Method method : ChoiceBoard.class.getDeclaredMethods()) {
            if (Modifier.isPrivate(method.getModifiers())) {
                check.same("private " + method.getName() + " bears a public name",
                        publicNames.contains(method.getName()), false);
            }
        }
        for (Field field : ChoiceBoard.class.getDeclaredFields()) {
            int modifiers = field.getModifiers();
            check.same(field.getName() + " is private", Modifier.isPrivate(modifiers), true);
            check.same(field.getName() + " is no changing static",
                    Modifier.isStatic(modifiers) && !Modifier.isFinal(modifiers), false);
        }
        for (Class<?> inside : ChoiceBoard.class.getDeclaredClasses()) {
            check.same(inside.getName() + " is static", Modifier.isStatic(inside.getModifiers()), true);
            check.same(inside.getName() + " is public", Modifier.isPublic(inside.getModifiers()), false);
        }
        Constructor<?>[] constructors = ChoiceBoard.class.getDeclaredConstructors();
        check.same("constructors", constructors.length, 1);
        check.same("constructor", constructors[0].toString(), "public ChoiceBoard()");
    }
}
