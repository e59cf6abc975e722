import java.lang.reflect.Constructor;
import java.lang.reflect.Field;
import java.lang.reflect.Method;
import java.lang.reflect.Modifier;
import java.util.Arrays;
import java.util.TreeSet;

/** The public face is the document's, and nothing else is seen from outside. */
public final class FaceTest {
    private static final String I = " throws IndexOutOfBoundsException";
    private static final String IA = I + " IllegalArgumentException";
    private static final String[] FACE = {
        "int addPlan() throws IllegalStateException",
        "int addStep(int char int)" + IA + " IllegalStateException",
        "int addEntry(int int char int int)" + IA + " IllegalStateException",
        "int addExit(int int char int int)" + IA + " UnsupportedOperationException IllegalStateException",
        "boolean setRequired(int int boolean)" + I + " UnsupportedOperationException IllegalStateException",
        "int setLimit(int int int)" + IA + " UnsupportedOperationException IllegalStateException",
        "boolean setAgain(int int boolean)" + I + " UnsupportedOperationException IllegalStateException",
        "int steps(int)" + I,
        "boolean isUsed(int)" + I,
        "int begin(int)" + I + " IllegalStateException",
        "int set(int int int)" + IA,
        "int event(int int)" + IA,
        "int complete(int int)" + I + " UnsupportedOperationException IllegalStateException",
        "boolean setWaiting(int boolean)" + I,
        "int move(int int)" + IA,
        "int pass(int) throws IllegalArgumentException",
        "char state(int int)" + I,
        "char stateByReplay(int int)" + I,
        "int clock(int int)" + I,
        "int clockByReplay(int int)" + I,
        "int count(int int)" + I,
        "boolean isLate(int int)" + I,
        "int daysLeft(int)" + I + " NoSuchElementException",
        "boolean holds(int int boolean int)" + I + " NoSuchElementException",
        "int active(int)" + I,
        "boolean isOver(int)" + I,
        "int rounds(int)" + I,
        "int datum(int int)" + IA,
        "int days(int)" + I,
        "int planOf(int)" + I,
        "boolean isWaiting(int)" + I,
        "int happened(int)" + I,
        "int cases()",
        "long daysWorked()",
        "float doneShare(int)" + I,
    };

    public static void main(String[] args) {
        Class<?> face = CasebookSteps.class;
        Check.same("modifiers", Modifier.toString(face.getModifiers()), "public final");
        TreeSet<String> methods = new TreeSet<>();
        TreeSet<String> names = new TreeSet<>();
        for (Method m : face.getDeclaredMethods()) {
            if (!Modifier.isPrivate(m.getModifiers())) {
                Check.same(m.getName(), Modifier.toString(m.getModifiers()), "public");
                methods.add(told(m));
                names.add(m.getName());
            }
        }
        Check.same("methods", methods, new TreeSet<>(Arrays.asList(FACE)));
        for (Constructor<?> c : face.getDeclaredConstructors()) {
            Check.same("constructor", c.toString(), "public CasebookSteps()");
        }
        for (Field f : face.getDeclaredFields()) {
            Check.same("private " + f.getName(), Modifier.isPrivate(f.getModifiers()), true);
        }
        noPrivateMethodBearsAPublicName(face, names);
        for (Class<?> inside : face.getDeclaredClasses()) {
            Check.same("static " + inside.getName(), Modifier.isStatic(inside.getModifiers()), true);
            Check.same("public " + inside.getName(), Modifier.isPublic(inside.getModifiers()), false);
            noPrivateMethodBearsAPublicName(inside, names);
        }
        Check.end("FaceTest");
    }

    private static void noPrivateMethodBearsAPublicName(Class<?> owner, TreeSet<String> names) {
        for (Method m : owner.getDeclaredMethods()) {
            boolean ownName = Modifier.isPublic(m.getModifiers()) || !names.contains(m.getName());
            Check.same("a name of its own for " + m.getName() + " in " + owner.getName(), ownName, true);
        }
    }

    private static String told(Method m) {
        StringBuilder text = new StringBuilder(m.getReturnType().getSimpleName());
        text.append(' ').append(m.getName()).append('(').append(listed(m.getParameterTypes())).append(')');
        if (m.getExceptionTypes().length > 0) {
            text.append(" throws ").append(listed(m.getExceptionTypes()));
        }
        return text.toString();
    }

    private static String listed(Class<?>[] types) {
        StringBuilder text = new StringBuilder();
        for (Class<?> type : types) {
            text.append(text.length() == 0 ? "" : " ").append(type.getSimpleName());
        }
        return text.toString();
    }
}
