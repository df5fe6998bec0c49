import java.lang.reflect.Constructor;
import java.lang.reflect.Field;
import java.lang.reflect.Method;
import java.lang.reflect.Modifier;
import java.util.Arrays;
import java.util.NoSuchElementException;
import java.util.TreeSet;

/** The class shows the document's face and nothing else. */
final class FaceTest {
    private static final Checks checks = new Checks();

    public static void main(String[] args) {
        checks.due("SYNTAX_ERROR", ExchangeControl.SYNTAX_ERROR, -2);
        checks.due("OUT_OF_RANGE", ExchangeControl.OUT_OF_RANGE, -3);
        checks.due("NAME_ERROR", ExchangeControl.NAME_ERROR, -4);
        checks.due("TOO_MANY", ExchangeControl.TOO_MANY, -5);
        checks.due("public and final", ExchangeControl.class.getModifiers() & (Modifier.PUBLIC | Modifier.FINAL),
            Modifier.PUBLIC | Modifier.FINAL);
        same("fields", shownFields(), "NAME_ERROR OUT_OF_RANGE SYNTAX_ERROR TOO_MANY");
        same("methods", shownMethods(), "int append(int,int,int,int,int)", "int load(int) A", "int errorOffset()",
            "int state(int) A", "int line(int,int) I A", "int group(int,int) I A", "int register(int,int) I A",
            "int marker(int,int) I A", "int call(int,int) I A", "int digit(int,int) I N", "int look(int,int) A",
            "int foremost(boolean)", "int overIn(int) I", "int foretold(int,int) A", "int bestGuard()", "float service()",
            "float traffic(int) I", "int dial(int,int,int) I A S", "int hang(int) I S", "int rule(int,int) A",
            "int pass(int) A", "int undo()", "long checksum()");
        Constructor<?>[] constructors = ExchangeControl.class.getDeclaredConstructors();
        checks.due("constructors", constructors.length, 1);
        checks.due("parameters of the constructor", constructors[0].getParameterCount(), 0);
        noOtherBearsAName();
        checks.end();
    }

    private static void same(String what, TreeSet<String> got, String... want) {
        TreeSet<String> due = new TreeSet<>();
        for (String names : want) {
            due.addAll(what.equals("fields") ? Arrays.asList(names.split(" ")) : Arrays.asList(names));
        }
        checks.due(what + " " + got, got.equals(due) ? 1 : 0, 1);
    }

    private static TreeSet<String> shownFields() {
        TreeSet<String> shown = new TreeSet<>();
        for (Field field : ExchangeControl.class.getDeclaredFields()) {
            if (!Modifier.isPrivate(field.getModifiers())) {
                shown.add(field.getName());
            }
        }
        return shown;
    }

    private static TreeSet<String> shownMethods() {
        TreeSet<String> shown = new TreeSet<>();
        for (Method method : ExchangeControl.class.getDeclaredMethods()) {
            if (!Modifier.isPrivate(method.getModifiers())) {
                String parameters = Arrays.toString(method.getParameterTypes());
                StringBuilder row = new StringBuilder(method.getReturnType() + " " + method.getName()
                    + parameters.replace("[", "(").replace("]", ")").replace(" ", ""));
                for (Class<?> thrown : method.getExceptionTypes()) {
                    row.append(' ').append(letterOf(thrown));
                }
                shown.add(row.toString());
            }
        }
        return shown;
    }

    private static String letterOf(Class<?> thrown) {
        return thrown == IndexOutOfBoundsException.class ? "I" : thrown == IllegalArgumentException.class ? "A"
            : thrown == IllegalStateException.class ? "S" : thrown == NoSuchElementException.class ? "N" : "?";
    }

    private static void noOtherBearsAName() {
        TreeSet<String> names = new TreeSet<>();
        for (Method method : ExchangeControl.class.getMethods()) {
            names.add(method.getName());
        }
        for (Method method : ExchangeControl.class.getDeclaredMethods()) {
            if (Modifier.isPrivate(method.getModifiers())) {
                checks.due("private " + method.getName(), names.contains(method.getName()) ? 1 : 0, 0);
            }
        }
        for (Class<?> inside : ExchangeControl.class.getDeclaredClasses()) {
            for (Method method : inside.getDeclaredMethods()) {
                checks.due(inside.getSimpleName() + " " + method.getName(),
                    names.contains(method.getName()) ? 1 : 0, 0);
            }
        }
    }
}
