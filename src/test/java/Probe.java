import java.util.function.Supplier;

/**
 * All that can be found out of an engine, told as one text: what it answers, what comes of its cases when more
 * happens to them, and what its plans still take. The engine is used up by it.
 */
final class Probe {
    // With the calls that made the engine this stays below the 512 that the document promises.
    private static final int MOST_CALLS = 440;

    private final CasebookSteps engine;
    private final StringBuilder text = new StringBuilder();
    private int calls = 0;

    private Probe(CasebookSteps engine) {
        this.engine = engine;
    }

    static String of(CasebookSteps engine) {
        Probe probe = new Probe(engine);
        probe.lookAtCases();
        probe.letMoreHappen();
        probe.lookAtCases();
        probe.changePlans();
        if (probe.calls > MOST_CALLS) {
            throw new IllegalStateException(probe.calls + " calls are too many: let the test use a smaller engine");
        }
        return probe.text.toString();
    }

    private void ask(Supplier<Object> call) {
        calls++;
        text.append(Check.outcome(call)).append(' ');
    }

    private int stepsOf(int number) {
        calls += 2;
        return engine.steps(engine.planOf(number));
    }

    private int cases() {
        calls++;
        return engine.cases();
    }

    private void lookAtCases() {
        ask(engine::cases);
        ask(engine::daysWorked);
        for (int i = 0; i < cases(); i++) {
            int number = i;
            text.append("\ncase ");
            ask(() -> engine.planOf(number));
            ask(() -> engine.days(number));
            ask(() -> engine.isWaiting(number));
            ask(() -> engine.happened(number));
            ask(() -> engine.rounds(number));
            ask(() -> engine.daysLeft(number));
            for (int datum = 0; datum < 4; datum++) {
                int asked = datum;
                ask(() -> engine.datum(number, asked));
            }
            int steps = stepsOf(number);
            for (int step = 0; step < steps; step++) {
                lookAtStep(number, step);
            }
        }
    }

    private void lookAtStep(int number, int step) {
        text.append("| ");
        ask(() -> engine.state(number, step));
        ask(() -> engine.stateByReplay(number, step));
        ask(() -> engine.clock(number, step));
        ask(() -> engine.clockByReplay(number, step));
        ask(() -> engine.count(number, step));
    }

    private void letMoreHappen() {
        text.append("\nmore ");
        ask(() -> engine.pass(1));
        for (int i = 0; i < cases(); i++) {
            int number = i;
            ask(() -> engine.event(number, 0));
            int steps = stepsOf(number);
            for (int step = 0; step < steps; step++) {
                int completed = step;
                ask(() -> engine.complete(number, completed));
            }
        }
    }

    private void changePlans() {
        for (int i = 0; i < 3; i++) {
            int plan = i;
            text.append("\nplan ");
            ask(() -> engine.isUsed(plan));
            ask(() -> engine.steps(plan));
            calls++;
            int steps = Check.outcome(() -> engine.steps(plan)) instanceof Integer known ? known : 0;
            for (int step = 0; step < steps; step++) {
                changeStep(plan, step);
            }
            ask(() -> engine.addStep(plan, 't', -1));
            ask(() -> engine.begin(plan));
        }
        ask(engine::addPlan);
        ask(engine::cases);
    }

    private void changeStep(int plan, int step) {
        text.append("| ");
        ask(() -> engine.setRequired(plan, step, false));
        ask(() -> engine.setLimit(plan, step, 50));
        ask(() -> engine.setAgain(plan, step, true));
        ask(() -> engine.addEntry(plan, step, 'e', 9, 0));
        ask(() -> engine.addExit(plan, step, 'e', 9, 0));
    }
}
