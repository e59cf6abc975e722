import java.lang.reflect.InvocationTargetException;
import java.lang.reflect.Method;
import java.util.Arrays;
import java.util.Objects;

/** Runs of 512 drawn calls, the same on every machine, on the program and on the Model side by side. */
public final class RandomRunsTest {
    private static final int RUNS = 1500;
    private static final int CALLS = 512;
    private static final int CALLS_BEYOND = 100;
    private static final int[] EDGES = {-1, 1000, 100, -100, Integer.MIN_VALUE, Integer.MAX_VALUE};
    private static final String[] BUILDING = {"addStep", "addStep", "addStep", "addEntry", "addEntry", "addExit",
        "addExit", "setRequired", "setLimit", "setAgain"};
    private static final String[] HAPPENING = {"set", "set", "set", "event", "event", "event", "complete",
        "complete", "setWaiting", "move", "pass", "pass", "begin"};

    private static long seed;
    private static Method[] programs;
    private static Method[] models;

    public static void main(String[] args) throws IllegalAccessException {
        programs = sorted(CasebookSteps.class);
        models = sorted(Model.class);
        for (int run = 1; run <= RUNS; run++) {
            seed = run * 7919L;
            if (!agree(run)) {
                break;
            }
        }
        Check.end("RandomRunsTest");
    }

    private static Method[] sorted(Class<?> owner) {
        Method[] found = Arrays.stream(owner.getDeclaredMethods())
            .filter(m -> java.lang.reflect.Modifier.isPublic(m.getModifiers())).toArray(Method[]::new);
        Arrays.sort(found, (a, b) -> a.getName().compareTo(b.getName()));
        return found;
    }

    private static boolean agree(int run) throws IllegalAccessException {
        CasebookSteps program = new CasebookSteps();
        Model model = new Model();
        int buildingCalls = 30 + draw(120);
        for (int i = 0; i < CALLS; i++) {
            int method = methodFor(i < buildingCalls ? BUILDING : HAPPENING, i);
            Object[] arguments = arguments(programs[method]);
            Object due = answer(models[method], model, arguments);
            Object got = answer(programs[method], program, arguments);
            if (!Objects.equals(got, due)) {
                Check.same("run " + run + ", call " + i + ", " + programs[method].getName()
                    + Arrays.toString(arguments), got, due);
                return false;
            }
        }
        return staysAliveBeyond(program);
    }

    /** What later calls answer is free, but the machine itself must still not throw. */
    private static boolean staysAliveBeyond(CasebookSteps program) throws IllegalAccessException {
        for (int i = 0; i < CALLS_BEYOND; i++) {
            int method = methodFor(HAPPENING, i);
            Object got = answer(programs[method], program, arguments(programs[method]));
            boolean promised = !(got instanceof Class<?> thrown)
                || Arrays.asList(programs[method].getExceptionTypes()).contains(thrown);
            if (!promised) {
                Check.same("a call beyond, " + programs[method].getName(), got, "one of its exceptions");
                return false;
            }
        }
        return true;
    }

    private static int methodFor(String[] changes, int call) {
        if (call < 2) {
            return numberOf("addPlan");
        }
        return draw(3) == 0 ? draw(programs.length) : numberOf(changes[draw(changes.length)]);
    }

    private static int numberOf(String name) {
        for (int i = 0; i < programs.length; i++) {
            if (programs[i].getName().equals(name)) {
                return i;
            }
        }
        throw new IllegalArgumentException(name);
    }

    private static Object answer(Method method, Object on, Object[] arguments) throws IllegalAccessException {
        try {
            return method.invoke(on, arguments);
        } catch (InvocationTargetException e) {
            return e.getCause().getClass();
        }
    }

    private static Object[] arguments(Method method) {
        Class<?>[] types = method.getParameterTypes();
        Object[] drawn = new Object[types.length];
        for (int i = 0; i < types.length; i++) {
            if (types[i] == boolean.class) {
                drawn[i] = draw(2) == 0;
            } else if (types[i] == char.class) {
                drawn[i] = character(method.getName());
            } else {
                drawn[i] = draw(25) == 0 ? EDGES[draw(EDGES.length)] : number(method.getName(), i);
            }
        }
        if (method.getName().equals("addEntry") || method.getName().equals("addExit")) {
            fitCondition(drawn);
        }
        return drawn;
    }

    private static char character(String name) {
        if (draw(20) == 0) {
            return (char) draw(300);
        }
        return name.equals("addStep") ? "sssttmm".charAt(draw(7)) : "dleectc".charAt(draw(7));
    }

    /** Most drawn conditions should be allowed ones, or the plans stay bare. */
    private static void fitCondition(Object[] drawn) {
        if ((char) drawn[2] == 't') {
            drawn[3] = draw(25) == 0 ? EDGES[draw(EDGES.length)] : draw(40);
        }
    }

    private static int number(String name, int position) {
        switch (name) {
            case "addStep":
                return position == 0 ? draw(2) : draw(7) - 1;
            case "addEntry":
            case "addExit":
                return position == 0 ? draw(3) : position == 4 ? draw(9) - 4 : draw(position == 1 ? 8 : 5);
            case "setRequired":
            case "setAgain":
                return position == 0 ? draw(3) : draw(8);
            case "setLimit":
                return position == 0 ? draw(3) : position == 1 ? draw(8) : draw(12);
            case "set":
                return position == 0 ? draw(4) : position == 1 ? draw(4) : draw(13) - 6;
            case "event":
                return position == 0 ? draw(4) : draw(6);
            case "begin":
            case "steps":
            case "isUsed":
                return draw(3);
            case "move":
                return position == 0 ? draw(4) : draw(3);
            case "pass":
                return draw(8) == 0 ? draw(12) : 1 + draw(3);
            case "holds":
                return position == 0 ? draw(4) : position == 1 ? draw(8) : draw(3);
            default:
                return position == 0 ? draw(4) : draw(8);
        }
    }

    private static int draw(int below) {
        seed = seed * 6364136223846793005L + 1442695040888963407L;
        return (int) ((seed >>> 33) % below);
    }
}
