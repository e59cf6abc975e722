import java.lang.reflect.InvocationTargetException;
import java.lang.reflect.Method;
import java.lang.reflect.Modifier;
import java.util.Arrays;
import java.util.Objects;

/** Runs of 512 drawn calls, the same on every machine, on the program and on the Model side by side. */
public final class RandomRunsTest {
    private static final int RUNS = 2000;
    private static final int CALLS = 512;
    private static final int CALLS_BEYOND = 100;
    private static final int RARELY = 25;
    private static final int[] EDGES = {-1, 4, 8, 9, 10, 11, 99, 100, -99, -100, 999, 1000,
        Integer.MIN_VALUE, Integer.MAX_VALUE};
    private static final String[] BUILDING = {"addStep", "addStep", "addStep", "addEntry", "addEntry", "addEntry",
        "addExit", "setRequired", "setLimit", "setAgain"};
    private static final String[] HAPPENING = {"set", "set", "set", "event", "event", "event", "complete",
        "complete", "setWaiting", "move", "pass", "pass", "begin"};
    private static final String[] READING = {"steps", "isUsed", "state", "stateByReplay", "clock", "clockByReplay",
        "count", "isLate", "daysLeft", "holds", "active", "isOver", "rounds", "datum", "days", "planOf",
        "isWaiting", "happened", "cases", "daysWorked", "doneShare"};

    private static long seed;
    private static Method[] programs;
    private static Method[] models;
    private static final int[] planSizes = new int[3];
    private static boolean chained;

    public static void main(String[] args) throws IllegalAccessException {
        programs = sorted(CasebookSteps.class);
        models = sorted(Model.class);
        for (int run = 1; run <= RUNS; run++) {
            seed = run * 7919L;
            if (!agree(run)) {
                break;
            }
        }
        Check.end("RandomRunsTest");
    }

    private static Method[] sorted(Class<?> owner) {
        Method[] found = Arrays.stream(owner.getDeclaredMethods())
            .filter(m -> Modifier.isPublic(m.getModifiers())).toArray(Method[]::new);
        Arrays.sort(found, (a, b) -> a.getName().compareTo(b.getName()));
        return found;
    }

    private static boolean agree(int run) throws IllegalAccessException {
        CasebookSteps program = new CasebookSteps();
        Model model = new Model();
        int buildingCalls = 20 + draw(160);
        chained = draw(4) == 0;
        for (int i = 0; i < CALLS; i++) {
            int method = methodFor(i < buildingCalls ? BUILDING : HAPPENING, i);
            Object[] arguments = arguments(programs[method], model);
            Object due = answer(models[method], model, arguments);
            Object got = answer(programs[method], program, arguments);
            if (!Objects.equals(got, due)) {
                Check.same("run " + run + ", call " + i + ", " + programs[method].getName()
                    + Arrays.toString(arguments), got, due);
                return false;
            }
        }
        return staysAliveBeyond(program, model);
    }

    /** What later calls answer is free, but the machine itself must still not throw. */
    private static boolean staysAliveBeyond(CasebookSteps program, Model model) throws IllegalAccessException {
        for (int i = 0; i < CALLS_BEYOND; i++) {
            int method = methodFor(HAPPENING, i);
            Object got = answer(programs[method], program, arguments(programs[method], model));
            boolean promised = !(got instanceof Class<?> thrown)
                || Arrays.asList(programs[method].getExceptionTypes()).contains(thrown);
            if (!promised) {
                Check.same("a call beyond, " + programs[method].getName(), got, "one of its exceptions");
                return false;
            }
        }
        return true;
    }

    private static int methodFor(String[] changes, int call) {
        if (call < 2) {
            return numberOf("addPlan");
        }
        if (draw(RARELY) == 0) {
            return draw(programs.length);
        }
        String[] names = draw(3) == 0 ? READING : changes;
        return numberOf(names[draw(names.length)]);
    }

    private static int numberOf(String name) {
        for (int i = 0; i < programs.length; i++) {
            if (programs[i].getName().equals(name)) {
                return i;
            }
        }
        throw new IllegalArgumentException(name);
    }

    private static Object answer(Method method, Object on, Object[] arguments) throws IllegalAccessException {
        try {
            return method.invoke(on, arguments);
        } catch (InvocationTargetException e) {
            return e.getCause().getClass();
        }
    }

    /** Drawn by what the model knows: the program is asked for nothing but its 512 calls. */
    private static Object[] arguments(Method method, Model model) {
        for (int i = 0; i < planSizes.length; i++) {
            Object size = sizeOf(model, i);
            planSizes[i] = size instanceof Integer known ? known : 0;
        }
        Class<?>[] types = method.getParameterTypes();
        Object[] drawn = new Object[types.length];
        for (int i = 0; i < types.length; i++) {
            if (types[i] == boolean.class) {
                drawn[i] = draw(2) == 0;
            } else if (types[i] == char.class) {
                drawn[i] = character(method.getName());
            } else if (draw(2 * RARELY) == 0) {
                drawn[i] = EDGES[draw(EDGES.length)];
            } else {
                drawn[i] = number(method.getName(), i, drawn, model);
            }
        }
        return drawn;
    }

    private static Object sizeOf(Model model, int plan) {
        return Check.outcome(() -> model.steps(plan));
    }

    private static char character(String name) {
        if (draw(2 * RARELY) == 0) {
            return (char) draw(300);
        }
        if (name.equals("addStep")) {
            return chained ? "stmmmm".charAt(draw(6)) : "sssttttmm".charAt(draw(9));
        }
        return chained ? "cccccd".charAt(draw(6)) : "dleectc".charAt(draw(7));
    }

    /** Most drawn numbers should be allowed ones, or the plans stay bare and the cases still. */
    private static int number(String name, int position, Object[] drawn, Model model) {
        int plan = position > 0 && (int) drawn[0] >= 0 && (int) drawn[0] < 3 ? (int) drawn[0] : 0;
        switch (name) {
            case "addStep":
                return position == 0 ? draw(2) : draw(3) == 0 ? -1 : draw(1 + planSizes[plan]) - 1;
            case "addEntry":
            case "addExit":
                return position == 0 ? draw(2) : position == 1 ? draw(1 + planSizes[plan])
                    : position == 3 ? conditionNumber((char) drawn[2], planSizes[plan]) : draw(9) - 4;
            case "setRequired":
            case "setAgain":
            case "setLimit":
                return position == 0 ? draw(2) : position == 1 ? draw(1 + planSizes[plan]) : draw(12);
            case "set":
                return position == 2 ? draw(13) - 6 : draw(4);
            case "event":
                return position == 0 ? someCase(model) : draw(6);
            case "begin":
            case "steps":
            case "isUsed":
                return draw(3);
            case "move":
                return position == 0 ? someCase(model) : draw(2);
            case "pass":
                return draw(8) == 0 ? draw(12) : 1 + draw(3);
            case "holds":
                return position == 0 ? someCase(model) : draw(position == 1 ? 8 : 3);
            case "datum":
                return position == 0 ? someCase(model) : draw(4);
            default:
                return position == 0 ? someCase(model) : draw(8);
        }
    }

    private static int conditionNumber(char sort, int steps) {
        return sort == 't' ? draw(40) : sort == 'e' ? draw(6) : draw(sort == 'c' ? 1 + steps : 4);
    }

    private static int someCase(Model model) {
        return draw(RARELY) == 0 ? draw(5) : draw(Math.max(1, model.cases()));
    }

    private static int draw(int below) {
        seed = seed * 6364136223846793005L + 1442695040888963407L;
        return (int) ((seed >>> 33) % below);
    }
}
