import java.util.function.Function;
import java.util.function.Supplier;

/** Each sentence of promises 18 to 36 that names a boundary case, with a test of its own. */
public final class StateBoundaryTest {
    public static void main(String[] args) {
        noSuchCaseOrStep("Promise 18: state", (x, number, step) -> x.state(number, step), 'a');
        stateAnswers();
        noSuchCaseOrStep("Promise 19: stateByReplay", (x, number, step) -> x.stateByReplay(number, step), 'a');
        stateByReplayIsTheSame();
        noSuchCaseOrStep("Promise 20: clock", (x, number, step) -> x.clock(number, step), 0);
        noSuchCaseOrStep("Promise 21: clockByReplay", (x, number, step) -> x.clockByReplay(number, step), 0);
        clockByReplayIsTheSame();
        noSuchCaseOrStep("Promise 22: count", (x, number, step) -> x.count(number, step), 1);
        countAnswers();
        noSuchCaseOrStep("Promise 23: isLate", (x, number, step) -> x.isLate(number, step), false);
        isLateOnlyActiveTasks();
        noSuchCase("Promise 24: daysLeft", x -> number -> x.daysLeft(number), 11);
        daysLeftNoSuchTask();
        daysLeftAnswers();
        noSuchCaseOrStep("Promise 25: holds",
            (x, number, step) -> x.holds(number, step, true, 0), "NoSuchElementException");
        holdsNoSuchCondition();
        noSuchCase("Promise 26: active", x -> number -> x.active(number), 8);
        activeAnswers();
        noSuchCase("Promise 27: isOver", x -> number -> x.isOver(number), false);
        isOverAnswers();
        noSuchCase("Promise 28: rounds", x -> number -> x.rounds(number), 1);
        roundsAnswers();
        noSuchCase("Promise 29: datum", x -> number -> x.datum(number, 0), 0);
        datumNumber();
        noSuchCase("Promise 30: days", x -> number -> x.days(number), 0);
        daysAnswers();
        noSuchCase("Promise 31: planOf", x -> number -> x.planOf(number), 0);
        noSuchCase("Promise 32: isWaiting", x -> number -> x.isWaiting(number), false);
        noSuchCase("Promise 33: happened", x -> number -> x.happened(number), 1);
        happenedAnswers();
        casesAnswers();
        daysWorkedAnswers();
        noSuchCase("Promise 36: doneShare", x -> number -> x.doneShare(number), 0.0f);
        doneShareAnswers();
        answersAfterAMove();
        Check.end("StateBoundaryTest");
    }

    /** A call that asks about a step of a case. */
    private interface StepAsked {
        Object ask(CasebookSteps engine, int number, int step);
    }

    private static CasebookSteps eightTasks() {
        return Engines.of("tttttttt", -1, -1, -1, -1, -1, -1, -1, -1);
    }

    private static CasebookSteps oneTask() {
        return Engines.of("t", -1);
    }

    private static CasebookSteps fourCases() {
        return Engines.begun(oneTask(), 0, 4);
    }

    /** A case with one step, in an engine with a larger plan. */
    private static CasebookSteps besideLarger() {
        return Engines.begun(Engines.withPlan(oneTask(), "ttt", -1, -1, -1), 0, 1);
    }

    private static void noSuchCase(String name, Function<CasebookSteps, Function<Integer, Object>> call, Object due) {
        Check.sentence(name + ", IndexOutOfBoundsException if there is no such case");
        for (int number : Check.outside(0)) {
            Check.refused("case " + number + " of 0", Check.INDEX, StateBoundaryTest::oneTask,
                x -> call.apply(x).apply(number));
        }
        for (int number : Check.outside(1)) {
            Check.refused("case " + number + " of 1", Check.INDEX, StateBoundaryTest::besideLarger,
                x -> call.apply(x).apply(number));
        }
        for (int number : Check.outside(4)) {
            Check.refused("case " + number + " of 4", Check.INDEX, StateBoundaryTest::fourCases,
                x -> call.apply(x).apply(number));
        }
        Check.answers("the last of 4", due,
            () -> Engines.begun(eightTasks(), 0, 4), x -> call.apply(x).apply(3));
    }

    private static void noSuchCaseOrStep(String name, StepAsked call, Object due) {
        for (int step : new int[] {0, 1, -1}) {
            int asked = step;
            noSuchCase(name, x -> number -> call.ask(x, number, number == 3 ? 7 : asked), due);
        }
        Check.sentence(name + ", IndexOutOfBoundsException if its plan has no such step");
        for (int step : Check.outside(1)) {
            Check.refused("step " + step + " of 1", Check.INDEX, StateBoundaryTest::besideLarger,
                x -> call.ask(x, 0, step));
        }
        for (int step : Check.outside(8)) {
            Check.refused("step " + step + " of 8", Check.INDEX, () -> Engines.begun(eightTasks(), 0, 1),
                x -> call.ask(x, 0, step));
        }
        Supplier<CasebookSteps> moved = () -> {
            CasebookSteps x = besideLarger();
            x.move(0, 1);
            return x;
        };
        Check.answers("the last step after a move", due, moved, x -> call.ask(x, 0, 2));
        Check.refused("one more after a move", Check.INDEX, moved, x -> call.ask(x, 0, 3));
    }

    /** An idle task, an active one, a completed one and an ended one. */
    private static CasebookSteps eachState() {
        CasebookSteps x = Engines.of("tttt", -1, -1, -1, -1);
        x.addEntry(0, 0, 'd', 0, 1);
        x.addExit(0, 3, 'd', 1, 1);
        Engines.begun(x, 0, 1);
        x.pass(2);
        x.complete(0, 2);
        x.pass(1);
        x.set(0, 1, 1);
        x.pass(3);
        return x;
    }

    private static void stateAnswers() {
        Check.sentence("Promise 18: 'i', 'a', 'c' or 'x'");
        for (int step = 0; step < 4; step++) {
            int asked = step;
            Check.answers("step " + step, "iacx".charAt(step), StateBoundaryTest::eachState, x -> x.state(0, asked));
        }
    }

    private static void stateByReplayIsTheSame() {
        Check.sentence("Promise 19: the same state, found by letting all that happened happen once more");
        CasebookSteps x = eachState();
        Check.same("happened before", x.happened(0), 9);
        for (int time = 0; time < 3; time++) {
            for (int step = 0; step < 4; step++) {
                Check.same("step " + step, x.stateByReplay(0, step), "iacx".charAt(step));
                Check.same("as it is kept", x.state(0, step), "iacx".charAt(step));
            }
        }
        Check.same("a replay is nothing that happens", x.happened(0), 9);
        Check.same("nor does it change the plan", x.steps(0), 4);
        CasebookSteps y = fourCases();
        for (int i = 0; i < 3; i++) {
            y.complete(i, 0);
        }
        for (int i = 0; i < 4; i++) {
            Check.same("the case " + i, y.stateByReplay(i, 0), i < 3 ? 'c' : 'a');
        }
    }

    private static void clockByReplayIsTheSame() {
        Check.sentence("Promise 21: the same clock, found by letting all that happened happen once more");
        int[] due = {0, 6, 2, 3};
        CasebookSteps x = eachState();
        for (int time = 0; time < 3; time++) {
            for (int step = 0; step < 4; step++) {
                Check.same("step " + step, x.clockByReplay(0, step), due[step]);
                Check.same("as it is kept", x.clock(0, step), due[step]);
            }
        }
        Check.same("no day has passed by it", x.days(0), 6);
        Check.same("daysWorked", x.daysWorked(), 11L);
        CasebookSteps y = Engines.of("t", -1);
        for (int i = 0; i < 4; i++) {
            y.begin(0);
            y.pass(i + 1);
        }
        for (int i = 0; i < 4; i++) {
            Check.same("the case " + i, y.clockByReplay(i, 0), y.days(i));
        }
        Check.same("days of the first", y.days(0), 10);
        Check.same("days of the last", y.days(3), 4);
    }

    private static void countAnswers() {
        Check.sentence("Promise 22: how often a step was entered");
        CasebookSteps x = Engines.of("mtt", -1, -1, -1);
        x.setAgain(0, 0, true);
        x.addEntry(0, 0, 'd', 0, 1);
        x.addEntry(0, 1, 'd', 1, 1);
        x.begin(0);
        Check.same("not yet", x.count(0, 0), 0);
        for (int time = 1; time <= 50; time++) {
            x.set(0, 0, 1);
            Check.same("count", x.count(0, 0), time);
            x.set(0, 0, 0);
            Check.same("falling back does not count", x.count(0, 0), time);
        }
        Check.same("a task that was not entered", x.count(0, 1), 0);
        x.complete(0, 2);
        Check.same("being completed does not count", x.count(0, 2), 1);
        CasebookSteps stage = Engines.of("st", -1, 0);
        stage.addEntry(0, 1, 'd', 0, 1);
        stage.addExit(0, 0, 'e', 0, 0);
        stage.begin(0);
        stage.event(0, 0);
        Check.same("a step that ended without being entered", stage.count(0, 1), 0);
        Check.same("its stage", stage.count(0, 0), 1);
    }

    private static void isLateOnlyActiveTasks() {
        Check.sentence("Promise 23: whether a step is an active task that is late");
        CasebookSteps x = Engines.of("tttst", -1, -1, -1, -1, -1);
        for (int step : new int[] {0, 1, 2, 4}) {
            x.setLimit(0, step, 1);
        }
        x.addExit(0, 1, 'e', 0, 0);
        x.addEntry(0, 4, 'd', 0, 1);
        x.begin(0);
        for (int step = 0; step < 5; step++) {
            Check.same("at first, step " + step, x.isLate(0, step), false);
        }
        x.pass(1);
        for (int step = 0; step < 5; step++) {
            Check.same("at its limit, step " + step, x.isLate(0, step), false);
        }
        x.pass(1);
        for (int step = 0; step < 5; step++) {
            Check.same("beyond it, step " + step, x.isLate(0, step), step < 3);
        }
        x.complete(0, 0);
        x.event(0, 0);
        for (int step = 0; step < 5; step++) {
            Check.same("completed, ended, active, a stage, idle: " + step, x.isLate(0, step), step == 2);
        }
        Check.same("the clock of a completed one", x.clock(0, 0), 2);
        Check.same("the clock of an ended one", x.clock(0, 1), 2);
    }

    private static void daysLeftNoSuchTask() {
        Check.sentence("Promise 24: NoSuchElementException if there is no such task");
        Check.refused("a stage and a milestone", Check.NO_ELEMENT,
            () -> Engines.begun(Engines.of("sm", -1, -1), 0, 1), x -> x.daysLeft(0));
        Supplier<CasebookSteps> notActive = () -> {
            CasebookSteps x = Engines.of("ttt", -1, -1, -1);
            x.addEntry(0, 0, 'd', 0, 1);
            x.addExit(0, 1, 't', 0, 0);
            Engines.begun(x, 0, 1);
            x.complete(0, 2);
            return x;
        };
        Check.refused("idle, ended and completed tasks", Check.NO_ELEMENT, notActive, x -> x.daysLeft(0));
        Supplier<CasebookSteps> late = () -> {
            CasebookSteps x = Engines.of("tt", -1, -1);
            x.setLimit(0, 0, 1);
            x.setLimit(0, 1, 3);
            Engines.begun(x, 0, 1);
            x.pass(3);
            return x;
        };
        Check.answers("the last day before the last one is late", 1, late, x -> x.daysLeft(0));
        Check.refused("all are late", Check.NO_ELEMENT, () -> {
            CasebookSteps x = late.get();
            x.pass(1);
            return x;
        }, x -> x.daysLeft(0));
    }

    private static void daysLeftAnswers() {
        Check.sentence("Promise 24: after how many days the first one of the tasks that are not late would be late");
        for (int limit = 1; limit <= 99; limit++) {
            CasebookSteps x = oneTask();
            x.setLimit(0, 0, limit);
            x.begin(0);
            Check.same("limit " + limit, x.daysLeft(0), limit + 1);
            x.pass(1);
            Check.same("a day later", x.daysLeft(0), limit);
        }
        CasebookSteps x = eightTasks();
        for (int i = 0; i < 8; i++) {
            x.setLimit(0, i, 8 - i);
        }
        x.begin(0);
        for (int day = 0; day <= 8; day++) {
            Check.same("after " + day + " days", x.daysLeft(0), day == 0 ? 2 : 1);
            for (int i = 0; i < 8; i++) {
                Check.same("late after " + day, x.isLate(0, i), day > 8 - i);
            }
            x.pass(1);
        }
        for (int first = 0; first < 8; first++) {
            CasebookSteps y = eightTasks();
            y.setLimit(0, first, 3);
            y.begin(0);
            Check.same("the first one is " + first, y.daysLeft(0), 4);
            y.complete(0, first);
            Check.same("the others", y.daysLeft(0), 11);
        }
        CasebookSteps waits = oneTask();
        waits.begin(0);
        waits.setWaiting(0, true);
        waits.pass(10);
        Check.same("days on which it waits do not count", waits.daysLeft(0), 11);
        waits.setWaiting(0, false);
        waits.pass(10);
        Check.same("the last day", waits.daysLeft(0), 1);
        Check.same("the first day on which it is late", waits.pass(1), 1);
    }

    private static CasebookSteps withConditions(int entries, int exits) {
        CasebookSteps x = Engines.of("tm", -1, -1);
        for (int i = 0; i < entries; i++) {
            x.addEntry(0, 0, 'd', i, 0);
            x.addEntry(0, 1, 'd', i, 0);
        }
        for (int i = 0; i < exits; i++) {
            x.addExit(0, 0, 'd', i, 1);
        }
        return Engines.begun(x, 0, 1);
    }

    private static void holdsNoSuchCondition() {
        Check.sentence("Promise 25: NoSuchElementException if the step has no such condition");
        for (int entries = 0; entries <= 3; entries++) {
            for (int exits = 0; exits <= 3; exits++) {
                int made = entries;
                int left = exits;
                Supplier<CasebookSteps> engine = () -> withConditions(made, left);
                for (int index = 0; index < entries; index++) {
                    int asked = index;
                    Check.answers("entry " + index, true, engine, x -> x.holds(0, 0, true, asked));
                }
                for (int index = 0; index < exits; index++) {
                    int asked = index;
                    Check.answers("exit " + index, false, engine, x -> x.holds(0, 0, false, asked));
                }
                for (int index : Check.outside(entries)) {
                    Check.refused("entry " + index + " of " + entries, Check.NO_ELEMENT, engine,
                        x -> x.holds(0, 0, true, index));
                    Check.refused("of a milestone, entry " + index + " of " + entries, Check.NO_ELEMENT, engine,
                        x -> x.holds(0, 1, true, index));
                    Check.refused("of no step, entry " + index, Check.INDEX, engine,
                        x -> x.holds(0, 2, true, index));
                    Check.refused("of no case, entry " + index, Check.INDEX, engine,
                        x -> x.holds(1, 0, true, index));
                }
                for (int index : Check.outside(exits)) {
                    Check.refused("exit " + index + " of " + exits, Check.NO_ELEMENT, engine,
                        x -> x.holds(0, 0, false, index));
                }
                Check.refused("of a milestone, exit 0", Check.NO_ELEMENT, engine, x -> x.holds(0, 1, false, 0));
            }
        }
    }

    private static void activeAnswers() {
        Check.sentence("Promise 26: the number of active steps");
        CasebookSteps x = Engines.begun(eightTasks(), 0, 1);
        for (int i = 0; i < 8; i++) {
            Check.same("all but " + i, x.active(0), 8 - i);
            x.complete(0, i);
        }
        Check.same("none", x.active(0), 0);
        CasebookSteps y = Engines.begun(Engines.of("stm", -1, 0, -1), 0, 1);
        Check.same("a stage and a task, no milestone", y.active(0), 2);
    }

    private static void isOverAnswers() {
        Check.sentence("Promise 27: whether each step that has no parent is completed or ended");
        CasebookSteps x = Engines.begun(eightTasks(), 0, 1);
        for (int i = 0; i < 8; i++) {
            Check.same("after " + i, x.isOver(0), false);
            x.complete(0, 7 - i);
        }
        Check.same("after all", x.isOver(0), true);
        CasebookSteps idle = oneTask();
        idle.addEntry(0, 0, 'd', 0, 1);
        idle.begin(0);
        Check.same("an idle step", idle.isOver(0), false);
        CasebookSteps ended = oneTask();
        ended.addExit(0, 0, 't', 0, 0);
        ended.begin(0);
        Check.same("an ended step", ended.isOver(0), true);
        CasebookSteps child = Engines.of("sm", -1, 0);
        child.setAgain(0, 1, true);
        child.addEntry(0, 1, 'd', 0, 1);
        child.begin(0);
        child.set(0, 0, 1);
        child.set(0, 0, 0);
        Check.same("a child fell back", Check.states(child, 0), "ci");
        Check.same("a step with a parent is of no account", child.isOver(0), true);
        CasebookSteps again = Engines.of("m", -1);
        again.setAgain(0, 0, true);
        again.addEntry(0, 0, 'd', 0, 1);
        again.begin(0);
        again.set(0, 0, 1);
        Check.same("over", again.isOver(0), true);
        again.set(0, 0, 0);
        Check.same("and not over again", again.isOver(0), false);
    }

    private static void roundsAnswers() {
        Check.sentence("Promise 28: how many rounds changed something for the last time");
        for (int chain = 0; chain <= 8; chain++) {
            CasebookSteps x = Engines.of("mmmmmmmm", -1, -1, -1, -1, -1, -1, -1, -1);
            for (int i = 0; i < chain - 1; i++) {
                x.addEntry(0, i, 'c', i + 1, 0);
            }
            for (int i = Math.max(0, chain - 1); i < 8; i++) {
                x.addEntry(0, i, 'e', i == chain - 1 ? 3 : 4, 0);
            }
            x.begin(0);
            Check.same("nothing to do at first", x.rounds(0), 0);
            Check.same("event", x.event(0, 3), chain);
            Check.same("a chain of " + chain, x.rounds(0), chain);
            x.setWaiting(0, true);
            Check.same("after something without effect", x.rounds(0), 0);
        }
        CasebookSteps two = fourCases();
        two.complete(1, 0);
        Check.same("of each case", two.rounds(0), 1);
        Check.same("being completed is no round", two.rounds(1), 0);
        Check.same("refused", Check.outcome(() -> two.set(0, 4, 0)), "IllegalArgumentException");
        Check.same("a refusal is nothing that happens", two.rounds(0), 1);
        two.pass(1);
        Check.same("a day is", two.rounds(0), 0);
    }

    private static void datumNumber() {
        Check.sentence("Promise 29: IllegalArgumentException if there is no such datum");
        for (int datum = 0; datum <= 3; datum++) {
            int asked = datum;
            Check.answers("datum " + datum, 0, Engines::usedByBeginning, x -> x.datum(0, asked));
        }
        for (int datum : Check.outside(4)) {
            Check.refused("datum " + datum, Check.ARGUMENT, Engines::usedByBeginning, x -> x.datum(0, datum));
            Check.refused("of no case, datum " + datum, Check.INDEX, Engines::usedByBeginning,
                x -> x.datum(1, datum));
            Check.refused("of no case at all, datum " + datum, Check.INDEX, Engines::small, x -> x.datum(0, datum));
        }
    }

    private static void daysAnswers() {
        Check.sentence("Promise 30: how many days have passed since a case began");
        CasebookSteps x = oneTask();
        x.begin(0);
        Check.same("at first", x.days(0), 0);
        x.pass(10);
        x.begin(0);
        Check.same("at first, later", x.days(1), 0);
        x.setWaiting(0, true);
        x.complete(1, 0);
        x.pass(1);
        Check.same("it waits", x.days(0), 11);
        Check.same("it is over", x.days(1), 1);
        x.move(0, 0);
        Check.same("moved anew", x.days(0), 11);
        Check.same("refused", Check.outcome(() -> x.pass(11)), "IllegalArgumentException");
        Check.same("after a refusal", x.days(0), 11);
    }

    private static void happenedAnswers() {
        Check.sentence("Promise 33: how many things have happened, its beginning and each day included");
        CasebookSteps x = Engines.begun(eightTasks(), 0, 2);
        Check.same("its beginning", x.happened(0), 1);
        x.set(0, 0, 0);
        Check.same("a datum is set to what it is", x.happened(0), 2);
        x.event(0, 0);
        Check.same("an event without effect", x.happened(0), 3);
        x.complete(0, 0);
        Check.same("a task is completed", x.happened(0), 4);
        x.setWaiting(0, false);
        Check.same("it goes on", x.happened(0), 5);
        x.move(0, 0);
        Check.same("it is moved", x.happened(0), 6);
        x.pass(10);
        Check.same("ten days", x.happened(0), 16);
        Check.same("refused", Check.outcome(() -> x.complete(0, 0)), "IllegalStateException");
        Check.same("a refusal", x.happened(0), 16);
        Check.same("the other case", x.happened(1), 11);
    }

    private static void casesAnswers() {
        Check.sentence("Promise 34: the number of cases");
        CasebookSteps x = oneTask();
        for (int i = 0; i < 4; i++) {
            Check.same("cases", x.cases(), i);
            x.begin(0);
        }
        Check.same("all", x.cases(), 4);
        Check.same("refused", Check.outcome(() -> x.begin(0)), "IllegalStateException");
        Check.same("after a refusal", x.cases(), 4);
    }

    private static void daysWorkedAnswers() {
        Check.sentence("Promise 35: the sum of the clocks of all steps of all cases");
        CasebookSteps x = Engines.begun(eightTasks(), 0, 4);
        Check.same("at first", x.daysWorked(), 0L);
        x.pass(10);
        Check.same("all of them", x.daysWorked(), 320L);
        for (int i = 0; i < 8; i++) {
            x.complete(3, i);
        }
        x.pass(1);
        Check.same("completed ones too, as they stood", x.daysWorked(), 344L);
        Check.answers("without cases", 0L, StateBoundaryTest::oneTask, y -> y.daysWorked());
    }

    private static void doneShareAnswers() {
        Check.sentence("Promise 36: the number of completed steps divided by that of all, both converted to float");
        for (int size = 1; size <= 8; size++) {
            CasebookSteps x = new CasebookSteps();
            x.addPlan();
            for (int i = 0; i < size; i++) {
                x.addStep(0, 't', -1);
            }
            x.begin(0);
            for (int done = 0; done < size; done++) {
                Check.same(done + " of " + size, x.doneShare(0), (float) done / (float) size);
                x.complete(0, done);
            }
            Check.same("all of " + size, x.doneShare(0), 1.0f);
        }
        CasebookSteps ended = oneTask();
        ended.addExit(0, 0, 't', 0, 0);
        ended.begin(0);
        Check.same("an ended step", ended.doneShare(0), 0.0f);
    }

    /** Two active tasks and an idle one, moved to a plan of four steps in which the second task is a stage. */
    private static CasebookSteps movedToFour() {
        CasebookSteps x = Engines.of("ttt", -1, -1, -1);
        x.addEntry(0, 2, 'd', 0, 1);
        Engines.withPlan(x, "tstm", -1, -1, 1, -1);
        x.addEntry(1, 2, 'd', 1, 5);
        x.addEntry(1, 2, 'l', 2, -4);
        x.addExit(1, 0, 't', 7, 0);
        Engines.begun(x, 0, 2);
        x.set(0, 3, 9);
        x.setWaiting(0, true);
        x.pass(1);
        x.setWaiting(0, false);
        x.pass(4);
        x.move(0, 1);
        return x;
    }

    private static void moved(String what, Object due, Function<CasebookSteps, Object> call) {
        Check.answers(what, due, StateBoundaryTest::movedToFour, call);
    }

    private static void answersAfterAMove() {
        Check.sentence("Promises 18 to 36: what a case answers after a move");
        moved("states", "aaic", x -> Check.states(x, 0));
        moved("states of the other case", "aai", x -> Check.states(x, 1));
        moved("active", 2, x -> x.active(0));
        moved("doneShare, of four steps now", 0.25f, x -> x.doneShare(0));
        moved("doneShare of the other case", 0.0f, x -> x.doneShare(1));
        moved("daysWorked, with the clock of the task that is a stage now", 18L, x -> x.daysWorked());
        moved("clock of the stage", 4, x -> x.clock(0, 1));
        moved("clockByReplay of the stage", 4, x -> x.clockByReplay(0, 1));
        moved("planOf", 1, x -> x.planOf(0));
        moved("planOf the other case", 0, x -> x.planOf(1));
        moved("datum", 9, x -> x.datum(0, 3));
        moved("days", 5, x -> x.days(0));
        moved("isWaiting", false, x -> x.isWaiting(0));
        moved("happened", 10, x -> x.happened(0));
        moved("rounds", 1, x -> x.rounds(0));
        moved("daysLeft", 7, x -> x.daysLeft(0));
        moved("an entry condition of the new plan", false, x -> x.holds(0, 2, true, 0));
        moved("the second entry condition", false, x -> x.holds(0, 2, true, 1));
        moved("one entry condition too many", "NoSuchElementException", x -> x.holds(0, 2, true, 2));
        moved("an exit condition of the new plan", false, x -> x.holds(0, 0, false, 0));
        moved("none of the old plan's", "NoSuchElementException", x -> x.holds(1, 2, true, 1));
        moved("isOver, when those without a parent in the new plan are", true, x -> {
            x.set(0, 1, 5);
            x.complete(0, 2);
            x.complete(0, 0);
            return x.isOver(0);
        });
        moved("isOver, when one of them is not", false, x -> {
            x.complete(0, 0);
            return x.isOver(0);
        });
        moved("isOver of a waiting case", false, x -> {
            x.setWaiting(0, true);
            x.complete(0, 0);
            return x.isOver(0);
        });
        moved("a case waits as before", true, x -> {
            x.setWaiting(0, true);
            x.move(0, 1);
            return x.isWaiting(0);
        });
    }
}
