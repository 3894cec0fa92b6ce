import java.lang.reflect.Constructor;
import java.lang.reflect.Field;
import java.lang.reflect.Method;
import java.lang.reflect.Modifier;
import java.util.Arrays;
import java.util.Set;
import java.util.TreeSet;

/** The public face: what the document tells, and nothing besides. */
public final class FaceTest {
    private static final String[] FACE = {
        "int appendText(int) IllegalStateException",
        "int truncateText(int) IllegalArgumentException",
        "int load()",
        "int play()",
        "int errorCode()",
        "int errorPosition()",
        "int count(int) IllegalArgumentException",
        "int power(int,int) IndexOutOfBoundsException IllegalArgumentException",
        "int claimOf(int,int,int) IndexOutOfBoundsException IllegalArgumentException",
        "int player(int,int) IndexOutOfBoundsException IllegalArgumentException",
        "int winner()",
        "int account(int) IllegalArgumentException",
        "int claim(int,int,int,boolean,int) IllegalArgumentException",
        "int lay(int,int) IndexOutOfBoundsException IllegalArgumentException",
        "int pass()",
        "int why(int,int) IndexOutOfBoundsException IllegalArgumentException",
        "int best()",
        "int behind(int,int,int) IndexOutOfBoundsException IllegalArgumentException IllegalStateException",
        "int degree()",
        "long value(int) IllegalArgumentException",
        "int roots(int,int) IllegalArgumentException",
        "int allRoots()",
        "int rootsOfSign(int) IllegalArgumentException",
        "int multiplicity(int) IllegalArgumentException",
        "int near(int,int) IndexOutOfBoundsException IllegalArgumentException",
        "double root(int) IndexOutOfBoundsException",
        "int rows()",
        "int rowDegree(int) IndexOutOfBoundsException",
        "int rowSign(int,int) IndexOutOfBoundsException IllegalArgumentException",
        "int changes(int,int) IllegalArgumentException",
        "int surplus(int,int) IllegalArgumentException",
        "int write()",
        "int writeTurns()",
        "int output(int)",
        "int undo()",
        "void save(int) IllegalArgumentException",
        "void restore(int) IllegalArgumentException IllegalStateException",
    };

    public static void main(String[] args) {
        Due.is("public and final", RootDuel.class.getModifiers(), Modifier.PUBLIC | Modifier.FINAL);
        methods();
        fields();
        Constructor<?>[] constructors = RootDuel.class.getDeclaredConstructors();
        Due.is("constructors", constructors.length, 1);
        Due.is("public constructor", constructors[0].getModifiers(), Modifier.PUBLIC);
        Due.is("its parameters", constructors[0].getParameterCount(), 0);
        for (Class<?> inside : RootDuel.class.getDeclaredClasses()) {
            Due.is(inside + " is static", inside.getModifiers() & Modifier.STATIC, Modifier.STATIC);
            Due.is(inside + " is not public", inside.getModifiers() & (Modifier.PUBLIC | Modifier.PROTECTED), 0);
        }
        Due.end("FaceTest");
    }

    private static void methods() {
        Set<String> open = new TreeSet<>();
        Set<String> names = new TreeSet<>();
        for (Method method : RootDuel.class.getDeclaredMethods()) {
            if (!Modifier.isPrivate(method.getModifiers())) {
                open.add(described(method));
                names.add(method.getName());
            }
        }
        Due.isText("the methods", open.toString(), new TreeSet<>(Arrays.asList(FACE)).toString());
        for (Method method : RootDuel.class.getDeclaredMethods()) {
            boolean shared = Modifier.isPrivate(method.getModifiers()) && names.contains(method.getName());
            Due.is("the name of private " + method.getName(), shared ? 1 : 0, 0);
        }
    }

    private static String described(Method method) {
        StringBuilder text = new StringBuilder();
        text.append(method.getReturnType().getSimpleName()).append(' ').append(method.getName()).append('(');
        for (Class<?> parameter : method.getParameterTypes()) {
            text.append(text.charAt(text.length() - 1) == '(' ? "" : ",").append(parameter.getSimpleName());
        }
        text.append(')');
        for (Class<?> exception : method.getExceptionTypes()) {
            text.append(' ').append(exception.getSimpleName());
        }
        return text.toString();
    }

    private static void fields() {
        for (Field field : RootDuel.class.getDeclaredFields()) {
            boolean isNone = field.getName().equals("NONE");
            int want = isNone ? Modifier.PUBLIC | Modifier.STATIC | Modifier.FINAL : Modifier.PRIVATE;
            int got = field.getModifiers();
            Due.is(field.getName(), isNone ? got : got & (Modifier.PUBLIC | Modifier.PROTECTED | Modifier.PRIVATE), want);
            if (Modifier.isStatic(got)) {
                Due.is(field.getName() + " is final", got & Modifier.FINAL, Modifier.FINAL);
            }
        }
    }
}
