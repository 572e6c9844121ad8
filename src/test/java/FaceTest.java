import java.lang.reflect.Constructor;
import java.lang.reflect.Field;
import java.lang.reflect.Method;
import java.lang.reflect.Modifier;
import java.util.Arrays;
import java.util.Set;
import java.util.TreeSet;

/** The class has the document's face, and what else it holds is hidden. */
final class FaceTest {
    private static final String[] FACE = {
        "int addNumber(int,int,int,char) IllegalArgumentException IllegalStateException UnsupportedOperationException",
        "int addQuotient(int,int,int,char) IllegalArgumentException IllegalStateException",
        "long remove(int) NoSuchElementException",
        "long feed(int,int,int) NoSuchElementException IllegalArgumentException",
        "long trade(int,int,int,int) NoSuchElementException IllegalArgumentException IllegalStateException UnsupportedOperationException",
        "int setScale(int,int) NoSuchElementException IllegalArgumentException",
        "char setMode(int,char) NoSuchElementException IllegalArgumentException",
        "int roundTogether(int) IllegalArgumentException",
        "int count()",
        "int numberAt(int) IndexOutOfBoundsException",
        "long value(int) NoSuchElementException",
        "int scale(int) NoSuchElementException",
        "char mode(int) NoSuchElementException",
        "int digit(int,int) NoSuchElementException IndexOutOfBoundsException",
        "int digitSum(int) NoSuchElementException",
        "int numberAtRank(int) IndexOutOfBoundsException",
        "long rounded(int,int,char) NoSuchElementException IllegalArgumentException",
        "long part(int,int,int) NoSuchElementException IllegalArgumentException IndexOutOfBoundsException",
        "int carries(int,int,int) NoSuchElementException IllegalArgumentException",
        "int carriesBySums(int,int,int) NoSuchElementException IllegalArgumentException",
        "int longestCarry(int,int,int) NoSuchElementException IllegalArgumentException",
        "long togetherError(int) IllegalArgumentException",
        "long togetherErrorBySets(int) IllegalArgumentException",
        "boolean goesUp(int,int) NoSuchElementException IllegalArgumentException",
        "int quotientDigit(int,int,int) IllegalArgumentException IndexOutOfBoundsException",
        "int preperiod(int,int) IllegalArgumentException",
        "int period(int,int) IllegalArgumentException",
        "int periodByPowers(int,int) IllegalArgumentException",
        "long total()",
        "long totalByAccounts()",
        "int escapes()",
        "long crumbs()",
        "double meanValue() ArithmeticException",
        "float share(int) NoSuchElementException ArithmeticException",
        "boolean isConsistent()",
        "int append(char) IllegalStateException",
        "int run() IllegalArgumentException UnsupportedOperationException",
        "int errorPosition() NoSuchElementException",
        "int failedCommand() NoSuchElementException",
        "int writeNumber(int) NoSuchElementException",
        "int writeQuotient(int,int) IllegalArgumentException",
        "char outputAt(int) IndexOutOfBoundsException",
        "int undo() IllegalStateException",
        "void save()",
        "void restore() IllegalStateException",
    };

    private FaceTest() {
    }

    public static void main(String[] args) {
        Checks checks = new Checks("FaceTest");
        Class<?> face = DecimalMenagerie.class;
        checks.due("modifiers", Modifier.toString(face.getModifiers()), "public final");
        Constructor<?>[] constructors = face.getDeclaredConstructors();
        checks.due("number of constructors", constructors.length, 1);
        checks.due("constructor", constructors[0].toString(), "public DecimalMenagerie()");
        Set<String> open = new TreeSet<>();
        Set<String> openNames = new TreeSet<>();
        Set<String> hiddenNames = new TreeSet<>();
        for (Method method : face.getDeclaredMethods()) {
            if (Modifier.isPrivate(method.getModifiers())) {
                hiddenNames.add(method.getName());
            } else {
                open.add(signature(method));
                openNames.add(method.getName());
            }
        }
        checks.due("face", String.join("\n", open), String.join("\n", new TreeSet<>(Arrays.asList(FACE))));
        hiddenNames.retainAll(openNames);
        checks.due("private methods with a public name", hiddenNames.toString(), "[]");
        for (Field field : face.getDeclaredFields()) {
            checks.due(field + " is private", Modifier.isPrivate(field.getModifiers()), true);
            checks.due(field + " is final if static",
                    !Modifier.isStatic(field.getModifiers()) || Modifier.isFinal(field.getModifiers()), true);
        }
        for (Class<?> inside : face.getDeclaredClasses()) {
            checks.due(inside + " is static and private", Modifier.isStatic(inside.getModifiers())
                    && Modifier.isPrivate(inside.getModifiers()), true);
        }
        checks.end();
    }

    private static String signature(Method method) {
        StringBuilder text = new StringBuilder();
        text.append(method.getReturnType()).append(' ').append(method.getName()).append('(');
        for (int i = 0; i < method.getParameterCount(); i++) {
            text.append(i > 0 ? "," : "").append(method.getParameterTypes()[i]);
        }
        text.append(')');
        for (Class<?> exception : method.getExceptionTypes()) {
            text.append(' ').append(exception.getSimpleName());
        }
        return text.toString();
    }
}
