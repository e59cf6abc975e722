import java.util.function.Function;
import java.util.function.Supplier;

/** Each sentence of promises 11 to 17 that names a boundary case, with a test of its own. */
public final class CaseBoundaryTest {
    public static void main(String[] args) {
        beginPlan();
        beginWithoutSteps();
        beginFull();
        setCase();
        setDatum();
        setValue();
        eventCase();
        eventNumber();
        eventCounts();
        completeCaseOrStep();
        completeKind();
        completeState();
        completeCounts();
        setWaitingCase();
        setWaitingBefore();
        moveCaseOrPlan();
        moveSize();
        moveBefore();
        passDays();
        passIsDayAfterDay();
        passCounts();
        Check.end("CaseBoundaryTest");
    }

    private static CasebookSteps bare() {
        return new CasebookSteps();
    }

    private static CasebookSteps oneTask() {
        return Engines.of("t", -1);
    }

    private static CasebookSteps fourCases() {
        return Engines.begun(oneTask(), 0, 4);
    }

    private static void noSuchCase(Function<Integer, Function<CasebookSteps, Object>> call) {
        for (int number : Check.outside(0)) {
            Check.refused("case " + number + " of 0", Check.INDEX, CaseBoundaryTest::oneTask, call.apply(number));
        }
        for (int number : Check.outside(1)) {
            Check.refused("case " + number + " of 1", Check.INDEX, Engines::usedByBeginning, call.apply(number));
        }
        for (int number : Check.outside(4)) {
            Check.refused("case " + number + " of 4", Check.INDEX, CaseBoundaryTest::fourCases, call.apply(number));
        }
    }

    private static void beginPlan() {
        Check.sentence("Promise 11: IndexOutOfBoundsException if there is no such plan");
        Supplier<CasebookSteps> three = () -> Engines.withPlan(Engines.withPlan(oneTask(), "t", -1), "m", -1);
        for (int plan : Check.outside(0)) {
            Check.refused("plan " + plan + " of 0", Check.INDEX, CaseBoundaryTest::bare, x -> x.begin(plan));
        }
        for (int plan : Check.outside(1)) {
            Check.refused("plan " + plan + " of 1", Check.INDEX, Engines::small, x -> x.begin(plan));
            Check.refused("plan " + plan + ", with 4 cases", Check.INDEX, CaseBoundaryTest::fourCases,
                x -> x.begin(plan));
        }
        for (int plan : Check.outside(3)) {
            Check.refused("plan " + plan + " of 3", Check.INDEX, three, x -> x.begin(plan));
        }
        Check.answers("the last of 3", 0, three, x -> x.begin(2));
    }

    private static void beginWithoutSteps() {
        Check.sentence("Promise 11: IllegalStateException if the plan has no steps");
        Check.refused("begin", Check.STATE, () -> Engines.of(""), x -> x.begin(0));
        Check.refused("beside a plan with steps", Check.STATE, () -> Engines.withPlan(oneTask(), ""),
            x -> x.begin(1));
        Check.refused("with 4 cases", Check.STATE, () -> Engines.withPlan(fourCases(), ""), x -> x.begin(1));
        CasebookSteps x = Engines.of("");
        Check.same("refused", Check.outcome(() -> x.begin(0)), "IllegalStateException");
        Check.same("the refused plan still takes a step", x.addStep(0, 't', -1), 0);
        Check.same("begin with one step", x.begin(0), 0);
    }

    private static void beginFull() {
        Check.sentence("Promise 11: IllegalStateException if there are 4 cases");
        for (int cases = 0; cases < 4; cases++) {
            int before = cases;
            Check.answers("begin after " + cases, cases, () -> Engines.begun(oneTask(), 0, before), x -> x.begin(0));
        }
        Check.refused("the fifth", Check.STATE, CaseBoundaryTest::fourCases, x -> x.begin(0));
        Check.refused("the fifth, with a plan that is not used", Check.STATE,
            () -> Engines.withPlan(fourCases(), "t", -1), x -> x.begin(1));
        Supplier<CasebookSteps> over = () -> {
            CasebookSteps x = fourCases();
            for (int i = 0; i < 4; i++) {
                x.complete(i, 0);
            }
            return x;
        };
        Check.answers("all are over", true, over, x -> x.isOver(3));
        Check.refused("the fifth, when all are over", Check.STATE, over, x -> x.begin(0));
    }

    private static void setCase() {
        Check.sentence("Promise 12: IndexOutOfBoundsException if there is no such case");
        noSuchCase(number -> x -> x.set(number, 0, 0));
        noSuchCase(number -> x -> x.set(number, 4, 100));
        Check.answers("the last of 4", 0, CaseBoundaryTest::fourCases, x -> x.set(3, 0, 0));
    }

    private static void setDatum() {
        Check.sentence("Promise 12: IllegalArgumentException if there is no such datum");
        for (int datum = 0; datum <= 3; datum++) {
            CasebookSteps x = Engines.usedByBeginning();
            Check.same("the value before", x.set(0, datum, 7), 0);
            for (int other = 0; other <= 3; other++) {
                Check.same("datum " + other, x.datum(0, other), other == datum ? 7 : 0);
            }
        }
        for (int datum : Check.outside(4)) {
            Check.refused("datum " + datum, Check.ARGUMENT, Engines::usedByBeginning, x -> x.set(0, datum, 0));
            Check.refused("datum " + datum + " to 100", Check.ARGUMENT, Engines::usedByBeginning,
                x -> x.set(0, datum, 100));
        }
    }

    private static void setValue() {
        Check.sentence("Promise 12: IllegalArgumentException if the value is not between -99 and 99");
        CasebookSteps x = Engines.usedByBeginning();
        int before = 0;
        for (int value = -99; value <= 99; value++) {
            Check.same("set to " + value, x.set(0, 3, value), before);
            Check.same("datum", x.datum(0, 3), value);
            before = value;
        }
        for (int value : new int[] {-100, 100, -256, 256, -65536, 65536, Integer.MIN_VALUE, Integer.MAX_VALUE}) {
            for (int datum = 0; datum <= 3; datum++) {
                int asked = datum;
                Check.refused("to " + value, Check.ARGUMENT, Engines::usedByBeginning, y -> y.set(0, asked, value));
            }
        }
    }

    private static void eventCase() {
        Check.sentence("Promise 13: IndexOutOfBoundsException if there is no such case");
        noSuchCase(number -> x -> x.event(number, 0));
        noSuchCase(number -> x -> x.event(number, 10));
        Check.answers("the last of 4", 0, CaseBoundaryTest::fourCases, x -> x.event(3, 0));
    }

    private static void eventNumber() {
        Check.sentence("Promise 13: IllegalArgumentException if there is no such event");
        for (int event = 0; event <= 9; event++) {
            CasebookSteps x = oneTask();
            x.addEntry(0, 0, 'e', event, 0);
            x.begin(0);
            for (int other = 0; other <= 9; other++) {
                if (other != event) {
                    Check.same("event " + other, x.event(0, other), 0);
                }
            }
            Check.same("event " + event, x.event(0, event), 1);
        }
        for (int event : Check.outside(10)) {
            Check.refused("event " + event, Check.ARGUMENT, Engines::usedByBeginning, x -> x.event(0, event));
        }
    }

    private static void eventCounts() {
        Check.sentence("Promise 13: the number of steps whose state is another one than before");
        for (int steps = 0; steps <= 8; steps++) {
            CasebookSteps x = Engines.of("mmmmmmmm", -1, -1, -1, -1, -1, -1, -1, -1);
            for (int i = 0; i < 8; i++) {
                x.addEntry(0, i, 'e', i < steps ? 9 : 8, 0);
            }
            x.begin(0);
            Check.same(steps + " of 8", x.event(0, 9), steps);
            Check.same("once more", x.event(0, 9), 0);
        }
        CasebookSteps back = Engines.of("mmm", -1, -1, -1);
        back.setAgain(0, 0, true);
        back.setAgain(0, 1, true);
        back.addEntry(0, 0, 'c', 1, 0);
        back.addEntry(0, 1, 'e', 1, 0);
        back.addEntry(0, 1, 'c', 2, 0);
        back.addEntry(0, 2, 'e', 2, 0);
        back.begin(0);
        Check.same("two are completed", back.event(0, 1), 2);
        Check.same("both fall back and come again, and only the third is another one", back.event(0, 2), 1);
        Check.same("rounds", back.rounds(0), 3);
        Check.same("count of the first", back.count(0, 0), 2);
        Check.same("count of the second", back.count(0, 1), 2);
    }

    private static void completeCaseOrStep() {
        Check.sentence("Promise 14: IndexOutOfBoundsException if there is no such case, or its plan has no such step");
        noSuchCase(number -> x -> x.complete(number, 0));
        noSuchCase(number -> x -> x.complete(number, 8));
        Supplier<CasebookSteps> besideLarger =
            () -> Engines.begun(Engines.withPlan(oneTask(), "tttt", -1, -1, -1, -1), 0, 1);
        for (int step : Check.outside(1)) {
            Check.refused("step " + step + " of 1", Check.INDEX, besideLarger, x -> x.complete(0, step));
        }
        for (int step : Check.outside(3)) {
            Check.refused("step " + step + " of 3", Check.INDEX, Engines::usedByBeginning,
                x -> x.complete(0, step));
        }
        Supplier<CasebookSteps> eight = () -> Engines.begun(
            Engines.of("tttttttt", -1, -1, -1, -1, -1, -1, -1, -1), 0, 1);
        for (int step : Check.outside(8)) {
            Check.refused("step " + step + " of 8", Check.INDEX, eight, x -> x.complete(0, step));
        }
        Check.answers("the last of 8", 0, eight, x -> x.complete(0, 7));
        CasebookSteps moved = besideLarger.get();
        Check.same("before a move", Check.outcome(() -> moved.complete(0, 3)), "IndexOutOfBoundsException");
        moved.move(0, 1);
        Check.same("after it", moved.complete(0, 3), 0);
    }

    private static void completeKind() {
        Check.sentence("Promise 14: UnsupportedOperationException if the step is not a task");
        Check.refused("an active stage", Check.UNSUPPORTED, Engines::usedByBeginning, x -> x.complete(0, 0));
        Check.refused("a completed milestone", Check.UNSUPPORTED, Engines::usedByBeginning, x -> x.complete(0, 2));
        Supplier<CasebookSteps> idle = () -> {
            CasebookSteps x = Engines.small();
            for (int i = 0; i < 3; i++) {
                x.addEntry(0, i, 'd', 0, 1);
            }
            return Engines.begun(x, 0, 1);
        };
        Check.refused("an idle stage", Check.UNSUPPORTED, idle, x -> x.complete(0, 0));
        Check.refused("an idle milestone", Check.UNSUPPORTED, idle, x -> x.complete(0, 2));
        Supplier<CasebookSteps> ended = () -> {
            CasebookSteps x = Engines.of("sm", -1, 0);
            x.addEntry(0, 1, 'd', 0, 1);
            x.addExit(0, 0, 't', 0, 0);
            return Engines.begun(x, 0, 1);
        };
        Check.refused("an ended stage", Check.UNSUPPORTED, ended, x -> x.complete(0, 0));
        Check.refused("an ended milestone", Check.UNSUPPORTED, ended, x -> x.complete(0, 1));
        Supplier<CasebookSteps> moved = () -> {
            CasebookSteps x = Engines.begun(Engines.withPlan(oneTask(), "m", -1), 0, 1);
            x.move(0, 1);
            return x;
        };
        Check.refused("an active milestone", Check.UNSUPPORTED, moved, x -> x.complete(0, 0));
    }

    private static void completeState() {
        Check.sentence("Promise 14: IllegalStateException if it is not active");
        Supplier<CasebookSteps> tasks = () -> {
            CasebookSteps x = Engines.of("tttt", -1, -1, -1, -1);
            x.addEntry(0, 0, 'd', 0, 1);
            x.addExit(0, 2, 't', 0, 0);
            Engines.begun(x, 0, 1);
            x.complete(0, 1);
            return x;
        };
        Check.answers("the states", "icxa", tasks, x -> Check.states(x, 0));
        Check.refused("idle", Check.STATE, tasks, x -> x.complete(0, 0));
        Check.refused("completed", Check.STATE, tasks, x -> x.complete(0, 1));
        Check.refused("ended", Check.STATE, tasks, x -> x.complete(0, 2));
        Check.answers("active", 0, tasks, x -> x.complete(0, 3));
    }

    private static void completeCounts() {
        Check.sentence("Promise 14: the number of other steps whose state is another one than before");
        for (int others = 0; others <= 7; others++) {
            CasebookSteps x = Engines.of("mmmtmmmm", -1, -1, -1, -1, -1, -1, -1, -1);
            for (int i = 0; i < 8; i++) {
                if (i != 3) {
                    x.addEntry(0, i, 'c', (i < 3 ? i : i - 1) < others ? 3 : i, 0);
                }
            }
            x.begin(0);
            Check.same(others + " of 7", x.complete(0, 3), others);
        }
        CasebookSteps back = Engines.of("mmmt", -1, -1, -1, -1);
        back.setAgain(0, 0, true);
        back.setAgain(0, 1, true);
        back.addEntry(0, 0, 'c', 1, 0);
        back.addEntry(0, 1, 'e', 1, 0);
        back.addEntry(0, 1, 'c', 2, 0);
        back.addEntry(0, 2, 'c', 3, 0);
        back.begin(0);
        back.event(0, 1);
        Check.same("both fall back and come again, and only the third is another one", back.complete(0, 3), 1);
        Check.same("rounds", back.rounds(0), 3);
        Check.same("count of the first", back.count(0, 0), 2);
    }

    private static void setWaitingCase() {
        Check.sentence("Promise 15: IndexOutOfBoundsException if there is no such case");
        noSuchCase(number -> x -> x.setWaiting(number, true));
        noSuchCase(number -> x -> x.setWaiting(number, false));
        Check.answers("the last of 4", false, CaseBoundaryTest::fourCases, x -> x.setWaiting(3, true));
    }

    private static void setWaitingBefore() {
        Check.sentence("Promise 15: true if it waited before");
        CasebookSteps x = Engines.usedByBeginning();
        Check.same("false at first", x.setWaiting(0, false), false);
        Check.same("true", x.setWaiting(0, true), false);
        Check.same("true once more", x.setWaiting(0, true), true);
        Check.same("false", x.setWaiting(0, false), true);
        Check.same("false once more", x.setWaiting(0, false), false);
        Check.same("each of them has happened", x.happened(0), 6);
    }

    private static void moveCaseOrPlan() {
        Check.sentence("Promise 16: IndexOutOfBoundsException if there is no such case or plan");
        noSuchCase(number -> x -> x.move(number, 0));
        noSuchCase(number -> x -> x.move(number, 3));
        for (int plan : Check.outside(1)) {
            Check.refused("plan " + plan + " of 1", Check.INDEX, Engines::usedByBeginning, x -> x.move(0, plan));
        }
        Supplier<CasebookSteps> three = () -> Engines.begun(
            Engines.withPlan(Engines.withPlan(oneTask(), ""), "tt", -1, -1), 0, 1);
        for (int plan : Check.outside(3)) {
            Check.refused("plan " + plan + " of 3", Check.INDEX, three, x -> x.move(0, plan));
        }
        for (int number : Check.outside(1)) {
            Check.refused("to a smaller plan", Check.INDEX, three, x -> x.move(number, 1));
        }
        Check.answers("the last plan", 0, three, x -> x.move(0, 2));
        Check.answers("the last of 4 cases", 0, CaseBoundaryTest::fourCases, x -> x.move(3, 0));
    }

    private static void moveSize() {
        Check.sentence("Promise 16: IllegalArgumentException if the plan has fewer steps than that of the case");
        for (int own = 1; own <= 8; own++) {
            for (int other = 0; other <= 8; other++) {
                int ownSize = own;
                int otherSize = other;
                Supplier<CasebookSteps> made = () -> Engines.begun(tasks(tasks(bare(), ownSize), otherSize), 0, 1);
                if (other < own) {
                    Check.refused("from " + own + " to " + other, Check.ARGUMENT, made, x -> x.move(0, 1));
                } else {
                    Check.answers("from " + own + " to " + other, 0, made, x -> x.move(0, 1));
                }
            }
        }
    }

    private static CasebookSteps tasks(CasebookSteps x, int tasks) {
        int plan = x.addPlan();
        for (int i = 0; i < tasks; i++) {
            x.addStep(plan, 't', -1);
        }
        return x;
    }

    private static void moveBefore() {
        Check.sentence("Promise 16: moves a case to another plan, or to its own one anew; returns the plan before");
        CasebookSteps x = Engines.begun(tasks(tasks(tasks(bare(), 1), 1), 2), 0, 2);
        Check.same("to its own", x.move(0, 0), 0);
        Check.same("to another", x.move(0, 1), 0);
        Check.same("back", x.move(0, 0), 1);
        Check.same("to a larger one", x.move(0, 2), 0);
        Check.same("to its own once more", x.move(0, 2), 2);
        Check.same("back to a smaller one", Check.outcome(() -> x.move(0, 0)), "IllegalArgumentException");
        Check.same("planOf", x.planOf(0), 2);
        Check.same("planOf the other case", x.planOf(1), 0);
        Check.same("happened", x.happened(0), 6);
        Check.same("happened to the other case", x.happened(1), 1);
    }

    private static void passDays() {
        Check.sentence("Promise 17: IllegalArgumentException if it is not between 1 and 10");
        for (int days = 1; days <= 10; days++) {
            CasebookSteps x = fourCases();
            Check.same("pass " + days, x.pass(days), 0);
            for (int i = 0; i < 4; i++) {
                Check.same("days of " + i, x.days(i), days);
                Check.same("clock of " + i, x.clock(i, 0), days);
                Check.same("happened to " + i, x.happened(i), 1 + days);
            }
        }
        for (int days : new int[] {0, 11, -1, -10, 12, 256 + 5, 65536 + 5, Integer.MIN_VALUE, Integer.MAX_VALUE}) {
            Check.refused("pass " + days, Check.ARGUMENT, CaseBoundaryTest::fourCases, x -> x.pass(days));
            Check.refused("without cases, pass " + days, Check.ARGUMENT, CaseBoundaryTest::bare, x -> x.pass(days));
        }
    }

    /** Tasks that begin on a certain day, and are ended on another one. */
    private static CasebookSteps timed() {
        CasebookSteps x = Engines.of("tttt", -1, -1, -1, -1);
        x.setLimit(0, 0, 1);
        x.addEntry(0, 1, 't', 1, 0);
        x.addEntry(0, 2, 't', 9, 0);
        x.addEntry(0, 3, 't', 10, 0);
        x.addExit(0, 1, 't', 4, 0);
        return Engines.begun(x, 0, 2);
    }

    private static void passIsDayAfterDay() {
        Check.sentence("Promise 17: one day after the other, and on each day case after case");
        CasebookSteps atOnce = timed();
        CasebookSteps oneByOne = timed();
        Check.same("pass 10", atOnce.pass(10), 2);
        for (int day = 1; day <= 10; day++) {
            Check.same("day " + day, oneByOne.pass(1), day < 2 ? 0 : 2);
        }
        int[] clocks = {10, 3, 1, 0};
        for (CasebookSteps x : new CasebookSteps[] {atOnce, oneByOne}) {
            for (int number = 0; number < 2; number++) {
                Check.same("states", Check.states(x, number), "axaa");
                Check.same("rounds on the last day", x.rounds(number), 1);
                Check.same("happened", x.happened(number), 11);
                for (int step = 0; step < 4; step++) {
                    Check.same("clock", x.clock(number, step), clocks[step]);
                }
            }
        }
    }

    private static void passCounts() {
        Check.sentence("Promise 17: the number of tasks that are late then");
        CasebookSteps x = Engines.of("tttttttt", -1, -1, -1, -1, -1, -1, -1, -1);
        for (int i = 0; i < 8; i++) {
            x.setLimit(0, i, i + 1);
        }
        Engines.begun(x, 0, 4);
        for (int day = 1; day <= 9; day++) {
            Check.same("day " + day, x.pass(1), 4 * (day - 1));
        }
        Check.same("late ones stay late", x.pass(10), 32);
        x.complete(3, 7);
        Check.same("completed ones are not late", x.pass(1), 31);
        CasebookSteps stage = Engines.begun(Engines.of("sm", -1, -1), 0, 1);
        stage.pass(10);
        Check.same("stages and milestones are not late", stage.pass(10), 0);
    }
}
