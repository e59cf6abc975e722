import java.util.Objects;

/** What the tests share: comparing answers, expecting exceptions, and an engine's whole visible state. */
final class Check {
    /** A call that may throw. */
    interface Call {
        Object make();
    }

    private static int wrong = 0;

    private Check() {
    }

    static void same(String what, Object got, Object due) {
        if (!Objects.equals(got, due)) {
            wrong++;
            System.out.println(what + " answered " + got + ", due is " + due);
        }
    }

    /** The exception must be of exactly this class: the machine's own are of classes below it. */
    static void refused(CasebookSteps engine, String what, Class<?> due, Call call) {
        String before = seen(engine);
        same(what, outcome(call), due.getSimpleName());
        same(what + ", the state after it,", seen(engine), before);
    }

    static Object outcome(Call call) {
        try {
            return call.make();
        } catch (RuntimeException e) {
            return e.getClass().getSimpleName();
        }
    }

    /** All that can be read from an engine without changing it. */
    static String seen(CasebookSteps engine) {
        StringBuilder text = new StringBuilder();
        for (int i = 0; i < 3; i++) {
            int plan = i;
            text.append(outcome(() -> engine.steps(plan))).append(' ');
            text.append(outcome(() -> engine.isUsed(plan))).append(' ');
        }
        text.append(engine.cases()).append(' ').append(engine.daysWorked());
        for (int i = 0; i < engine.cases(); i++) {
            text.append("\n").append(seenCase(engine, i));
        }
        return text.toString();
    }

    private static String seenCase(CasebookSteps engine, int number) {
        StringBuilder text = new StringBuilder();
        text.append(engine.planOf(number)).append(' ').append(engine.days(number)).append(' ');
        text.append(engine.isWaiting(number)).append(' ').append(engine.happened(number)).append(' ');
        text.append(engine.rounds(number)).append(' ').append(engine.active(number)).append(' ');
        text.append(engine.isOver(number)).append(' ').append(engine.doneShare(number)).append(' ');
        text.append(outcome(() -> engine.daysLeft(number))).append(" data");
        for (int i = 0; i < 4; i++) {
            text.append(' ').append(engine.datum(number, i));
        }
        int steps = engine.steps(engine.planOf(number));
        for (int i = 0; i < steps; i++) {
            text.append(" | ").append(engine.state(number, i)).append(engine.stateByReplay(number, i));
            text.append(' ').append(engine.clock(number, i)).append(' ').append(engine.clockByReplay(number, i));
            text.append(' ').append(engine.count(number, i)).append(' ').append(engine.isLate(number, i));
            int step = i;
            for (int index = 0; index < 3; index++) {
                int asked = index;
                text.append(' ').append(outcome(() -> engine.holds(number, step, true, asked)));
                text.append(' ').append(outcome(() -> engine.holds(number, step, false, asked)));
            }
        }
        return text.toString();
    }

    /** The states of a case's steps as one text, such as "aic". */
    static String states(CasebookSteps engine, int number) {
        StringBuilder text = new StringBuilder();
        int steps = engine.steps(engine.planOf(number));
        for (int i = 0; i < steps; i++) {
            text.append(engine.state(number, i));
        }
        return text.toString();
    }

    static void end(String test) {
        System.out.println(test + ": " + (wrong == 0 ? "all answers are as due" : wrong + " answers are not as due"));
        if (wrong != 0) {
            System.exit(1);
        }
    }
}
