import java.lang.reflect.Constructor;
import java.lang.reflect.Field;
import java.lang.reflect.Method;
import java.lang.reflect.Modifier;
import java.util.Arrays;
import java.util.TreeSet;

/** The class shows the document's face and nothing else. */
final class FaceTest {
    private static final Checks checks = new Checks();

    public static void main(String[] args) {
        checks.due("SYNTAX_ERROR", ExchangeControl.SYNTAX_ERROR, -2);
        checks.due("OUT_OF_RANGE", ExchangeControl.OUT_OF_RANGE, -3);
        checks.due("NAME_ERROR", ExchangeControl.NAME_ERROR, -4);
        checks.due("TOO_MANY", ExchangeControl.TOO_MANY, -5);
        checks.due("public and final", ExchangeControl.class.getModifiers() & (Modifier.PUBLIC | Modifier.FINAL),
            Modifier.PUBLIC | Modifier.FINAL);
        same("fields", shownFields(), "NAME_ERROR OUT_OF_RANGE SYNTAX_ERROR TOO_MANY");
        same("methods", shownMethods(), "int append(int,int,int,int,int)", "int bestGuard()", "int call(int,int)",
            "int dial(int,int,int)", "int digit(int,int)", "int errorOffset()", "int foremost(boolean)",
            "int foretold(int,int)", "int group(int,int)", "int hang(int)", "int line(int,int)", "int load(int)",
            "int look(int,int)", "int marker(int,int)", "int overIn(int)", "int pass(int)", "int register(int,int)",
            "int rule(int,int)", "int state(int)", "int undo()", "float service()", "float traffic(int)",
            "long checksum()");
        Constructor<?>[] constructors = ExchangeControl.class.getDeclaredConstructors();
        checks.due("constructors", constructors.length, 1);
        checks.due("parameters of the constructor", constructors[0].getParameterCount(), 0);
        noOtherBearsAName();
        checks.end();
    }

    private static void same(String what, TreeSet<String> got, String... want) {
        TreeSet<String> due = new TreeSet<>();
        for (String names : want) {
            due.addAll(what.equals("fields") ? Arrays.asList(names.split(" ")) : Arrays.asList(names));
        }
        checks.due(what + " " + got, got.equals(due) ? 1 : 0, 1);
    }

    private static TreeSet<String> shownFields() {
        TreeSet<String> shown = new TreeSet<>();
        for (Field field : ExchangeControl.class.getDeclaredFields()) {
            if (!Modifier.isPrivate(field.getModifiers())) {
                shown.add(field.getName());
            }
        }
        return shown;
    }

    private static TreeSet<String> shownMethods() {
        TreeSet<String> shown = new TreeSet<>();
        for (Method method : ExchangeControl.class.getDeclaredMethods()) {
            if (!Modifier.isPrivate(method.getModifiers())) {
                String parameters = Arrays.toString(method.getParameterTypes());
                shown.add(method.getReturnType() + " " + method.getName()
                    + parameters.replace("[", "(").replace("]", ")").replace(" ", ""));
            }
        }
        return shown;
    }

    private static void noOtherBearsAName() {
        TreeSet<String> names = new TreeSet<>();
        for (Method method : ExchangeControl.class.getMethods()) {
            names.add(method.getName());
        }
        for (Method method : ExchangeControl.class.getDeclaredMethods()) {
            if (Modifier.isPrivate(method.getModifiers())) {
                checks.due("private " + method.getName(), names.contains(method.getName()) ? 1 : 0, 0);
            }
        }
        for (Class<?> inside : ExchangeControl.class.getDeclaredClasses()) {
            for (Method method : inside.getDeclaredMethods()) {
                checks.due(inside.getSimpleName() + " " + method.getName(),
                    names.contains(method.getName()) ? 1 : 0, 0);
            }
        }
    }
}
