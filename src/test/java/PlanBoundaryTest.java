import java.util.List;
import java.util.function.Function;
import java.util.function.Supplier;

/** Each sentence of promises 1 to 10 that names a boundary case, with a test of its own. */
public final class PlanBoundaryTest {
    private static final List<Supplier<CasebookSteps>> USED =
        List.of(Engines::usedByBeginning, Engines::usedByMoving);

    public static void main(String[] args) {
        newObject();
        addPlanRefused();
        addStepPlan();
        addStepKind();
        addStepParent();
        addStepUsed();
        addStepFull();
        addEntryPlanOrStep();
        addEntrySort();
        addEntryNumbers();
        addEntryUsed();
        addEntryFull();
        addExitPlanOrStep();
        addExitSort();
        addExitNumbers();
        addExitMilestone();
        addExitUsed();
        addExitFull();
        setRequiredPlanOrStep();
        setRequiredKind();
        setRequiredUsed();
        setLimitPlanOrStep();
        setLimitDays();
        setLimitKind();
        setLimitUsed();
        setAgainPlanOrStep();
        setAgainKind();
        setAgainUsed();
        stepsPlan();
        isUsedPlan();
        Check.end("PlanBoundaryTest");
    }

    private static CasebookSteps bare() {
        return new CasebookSteps();
    }

    private static CasebookSteps threePlans() {
        CasebookSteps x = Engines.small();
        Engines.withPlan(x, "t", -1);
        return Engines.withPlan(x, "");
    }

    /** Seven steps in the plan 0: stages 0 and 6, each of the others in the stage 0. */
    private static CasebookSteps sevenSteps() {
        return Engines.of("sttmtms", -1, 0, 0, 0, 0, 0, 0);
    }

    private static CasebookSteps eightSteps() {
        CasebookSteps x = sevenSteps();
        x.addStep(0, 't', 6);
        return x;
    }

    private static void newObject() {
        Check.sentence("Promise 1: an engine without plans and cases");
        Check.answers("cases", 0, PlanBoundaryTest::bare, x -> x.cases());
        Check.answers("daysWorked", 0L, PlanBoundaryTest::bare, x -> x.daysWorked());
        Check.answers("pass of no cases", 0, PlanBoundaryTest::bare, x -> x.pass(10));
        Check.answers("the first plan", 0, PlanBoundaryTest::bare, x -> x.addPlan());
        Check.refused("the plan 0", Check.INDEX, PlanBoundaryTest::bare, x -> x.steps(0));
        Check.refused("begin", Check.INDEX, PlanBoundaryTest::bare, x -> x.begin(0));
        Check.refused("the case 0", Check.INDEX, PlanBoundaryTest::bare, x -> x.days(0));
        CasebookSteps one = Engines.usedByBeginning();
        Check.same("another object's plans and cases", one.cases(), 1);
        Check.refused("beside another object", Check.INDEX, PlanBoundaryTest::bare, x -> x.days(0));
    }

    private static void addPlanRefused() {
        Check.sentence("Promise 2: IllegalStateException if there are 3 plans");
        CasebookSteps x = new CasebookSteps();
        for (int i = 0; i < 3; i++) {
            Check.same("addPlan", x.addPlan(), i);
        }
        Check.refused("the fourth", Check.STATE, PlanBoundaryTest::threePlans, y -> y.addPlan());
        Check.refused("the fourth, when one is used", Check.STATE,
            () -> Engines.begun(threePlans(), 0, 1), y -> y.addPlan());
        Check.same("the fourth", Check.outcome(x::addPlan), "IllegalStateException");
        Check.same("the fourth once more", Check.outcome(x::addPlan), "IllegalStateException");
        Check.same("a step in the third", x.addStep(2, 't', -1), 0);
    }

    private static void noSuchPlan(Function<Integer, Function<CasebookSteps, Object>> call) {
        for (int plan : Check.outside(0)) {
            Check.refused("plan " + plan + " of 0", Check.INDEX, PlanBoundaryTest::bare, call.apply(plan));
        }
        for (int plan : Check.outside(1)) {
            Check.refused("plan " + plan + " of 1", Check.INDEX, Engines::small, call.apply(plan));
        }
        for (int plan : Check.outside(3)) {
            Check.refused("plan " + plan + " of 3", Check.INDEX, PlanBoundaryTest::threePlans, call.apply(plan));
        }
    }

    /** The plan 1 has one step only, and the plan 2 none, though the plan 0 has more. */
    private static void noSuchStep(int plan, int size, Function<Integer, Function<CasebookSteps, Object>> call) {
        for (int step : Check.outside(size)) {
            Check.refused("step " + step + " of " + size, Check.INDEX, PlanBoundaryTest::threePlans,
                call.apply(step));
        }
        Check.refused("a step of a used plan, " + plan, Check.INDEX,
            () -> size == 0 ? threePlans() : Engines.begun(threePlans(), plan, 1), call.apply(size));
    }

    private static void addStepPlan() {
        Check.sentence("Promise 3: IndexOutOfBoundsException if there is no such plan");
        noSuchPlan(plan -> x -> x.addStep(plan, 't', -1));
        noSuchPlan(plan -> x -> x.addStep(plan, 'q', 99));
        Check.answers("the last plan", 0, PlanBoundaryTest::threePlans, x -> x.addStep(2, 't', -1));
    }

    private static void addStepKind() {
        Check.sentence("Promise 3: IllegalArgumentException if there is no such kind");
        for (char kind = 0; kind < Character.MAX_VALUE; kind++) {
            char asked = kind;
            boolean isKind = kind == 's' || kind == 't' || kind == 'm';
            Check.answers("kind " + (int) kind, isKind ? (Object) 0 : "IllegalArgumentException",
                () -> Engines.of(""), x -> x.addStep(0, asked, -1));
        }
        for (char kind : new char[] {'r', 'u', 'l', 'n', 'S', 'T', 'M', 'a', 0, 's' + 256, Character.MAX_VALUE}) {
            Check.refused("kind " + (int) kind, Check.ARGUMENT, Engines::small, x -> x.addStep(0, kind, -1));
            Check.refused("ninth, of kind " + (int) kind, Check.ARGUMENT, PlanBoundaryTest::eightSteps,
                x -> x.addStep(0, kind, -1));
            for (Supplier<CasebookSteps> used : USED) {
                Check.refused("used, kind " + (int) kind, Check.ARGUMENT, used, x -> x.addStep(0, kind, -1));
            }
        }
    }

    private static void addStepParent() {
        Check.sentence("Promise 3: IllegalArgumentException if the parent is neither -1 nor a stage of the plan");
        Check.answers("no parent", 3, Engines::small, x -> x.addStep(0, 't', -1));
        Check.answers("the first stage", 3, Engines::small, x -> x.addStep(0, 't', 0));
        Check.answers("the last stage", 7, PlanBoundaryTest::sevenSteps, x -> x.addStep(0, 't', 6));
        Check.refused("a task", Check.ARGUMENT, Engines::small, x -> x.addStep(0, 't', 1));
        Check.refused("a milestone", Check.ARGUMENT, Engines::small, x -> x.addStep(0, 't', 2));
        Check.refused("the step itself", Check.ARGUMENT, Engines::small, x -> x.addStep(0, 's', 3));
        Check.refused("the first step itself", Check.ARGUMENT, () -> Engines.of(""), x -> x.addStep(0, 's', 0));
        Check.refused("a stage of the other plan", Check.ARGUMENT, PlanBoundaryTest::threePlans,
            x -> x.addStep(1, 't', 0));
        for (int parent : new int[] {-2, -3, 4, 7, 8, 32, 256, 65536, Integer.MIN_VALUE, Integer.MAX_VALUE}) {
            Check.refused("parent " + parent, Check.ARGUMENT, Engines::small, x -> x.addStep(0, 't', parent));
        }
        for (int parent : new int[] {-2, 1, 7, 8, 9}) {
            Check.refused("ninth, parent " + parent, Check.ARGUMENT, PlanBoundaryTest::eightSteps,
                x -> x.addStep(0, 't', parent));
        }
        for (Supplier<CasebookSteps> used : USED) {
            Check.refused("used, in a task", Check.ARGUMENT, used, x -> x.addStep(0, 't', 1));
        }
    }

    private static void addStepUsed() {
        Check.sentence("Promise 3: IllegalStateException if the plan is used");
        for (Supplier<CasebookSteps> used : USED) {
            for (char kind : new char[] {'s', 't', 'm'}) {
                Check.refused("addStep of kind " + kind, Check.STATE, used, x -> x.addStep(0, kind, -1));
            }
            Check.refused("addStep in a stage", Check.STATE, used, x -> x.addStep(0, 't', 0));
        }
        Check.answers("another plan is used", 1, () -> Engines.begun(threePlans(), 0, 1),
            x -> x.addStep(1, 't', -1));
        Check.refused("a used plan with 8 steps", Check.STATE, () -> Engines.begun(eightSteps(), 0, 1),
            x -> x.addStep(0, 't', -1));
    }

    private static void addStepFull() {
        Check.sentence("Promise 3: IllegalStateException if the plan has 8 steps");
        Check.answers("the eighth", 7, PlanBoundaryTest::sevenSteps, x -> x.addStep(0, 't', -1));
        for (char kind : new char[] {'s', 't', 'm'}) {
            Check.refused("the ninth, of kind " + kind, Check.STATE, PlanBoundaryTest::eightSteps,
                x -> x.addStep(0, kind, -1));
            Check.refused("the ninth, in a stage", Check.STATE, PlanBoundaryTest::eightSteps,
                x -> x.addStep(0, kind, 6));
        }
        Check.answers("the first of another plan", 0, () -> Engines.withPlan(eightSteps(), ""),
            x -> x.addStep(1, 't', -1));
    }

    private static void addEntryPlanOrStep() {
        Check.sentence("Promise 4: IndexOutOfBoundsException if there is no such plan or step");
        noSuchPlan(plan -> x -> x.addEntry(plan, 0, 'd', 0, 0));
        noSuchPlan(plan -> x -> x.addEntry(plan, 0, 'q', -1, 100));
        noSuchStep(0, 3, step -> x -> x.addEntry(0, step, 'd', 0, 0));
        noSuchStep(0, 3, step -> x -> x.addEntry(0, step, 'q', -1, 100));
        noSuchStep(1, 1, step -> x -> x.addEntry(1, step, 'd', 0, 0));
        noSuchStep(2, 0, step -> x -> x.addEntry(2, step, 'd', 0, 0));
        Check.answers("the last step", 1, PlanBoundaryTest::threePlans, x -> x.addEntry(0, 2, 'd', 0, 0));
        Check.answers("the last step of the plan 1", 1, PlanBoundaryTest::threePlans,
            x -> x.addEntry(1, 0, 'd', 0, 0));
    }

    /** A call that adds a condition of this sort with these numbers. */
    private interface Adding {
        Object add(CasebookSteps engine, char sort, int a, int b);
    }

    private static void sorts(Adding to) {
        for (char sort = 0; sort < Character.MAX_VALUE; sort++) {
            char asked = sort;
            boolean isSort = sort == 'd' || sort == 'l' || sort == 'e' || sort == 'c' || sort == 't';
            Check.answers("sort " + (int) sort, isSort ? (Object) 1 : "IllegalArgumentException",
                () -> Engines.of("t", -1), x -> to.add(x, asked, 0, 0));
        }
        for (char sort : new char[] {'a', 'b', 'f', 'k', 'm', 's', 'u', 'D', 0, 'd' + 256, Character.MAX_VALUE}) {
            Check.refused("sort " + (int) sort, Check.ARGUMENT, Engines::small, x -> to.add(x, sort, 0, 0));
            for (Supplier<CasebookSteps> used : USED) {
                Check.refused("used, sort " + (int) sort, Check.ARGUMENT, used, x -> to.add(x, sort, 0, 0));
            }
        }
    }

    private static void accepts(Adding to, char sort, int a, int b) {
        Check.answers(sort + " " + a + " " + b, 1, Engines::small, x -> to.add(x, sort, a, b));
    }

    private static void refuses(Adding to, char sort, int a, int b) {
        Check.refused(sort + " " + a + " " + b, Check.ARGUMENT, Engines::small, x -> to.add(x, sort, a, b));
        for (Supplier<CasebookSteps> used : USED) {
            Check.refused("used, " + sort + " " + a + " " + b, Check.ARGUMENT, used, x -> to.add(x, sort, a, b));
        }
    }

    private static void numbers(Adding to, String promise) {
        Check.sentence(promise + " if a is not a datum from 0 to 3");
        for (char sort : new char[] {'d', 'l'}) {
            numbersA(to, sort, 3, 0);
        }
        Check.sentence(promise + " if a is not an event from 0 to 9");
        numbersA(to, 'e', 9, 0);
        Check.sentence(promise + " if a is not a step of the plan");
        numbersA(to, 'c', 2, 0);
        Check.sentence(promise + " if a is not from 0 to 999 for the sort 't'");
        numbersA(to, 't', 999, 0);
        Check.sentence(promise + " if b is not between -99 and 99 for the sorts 'd' and 'l'");
        for (char sort : new char[] {'d', 'l'}) {
            for (int b = -99; b <= 99; b++) {
                accepts(to, sort, 0, b);
            }
            for (int b : new int[] {-100, 100, -256, 256, -65536, 65536, Integer.MIN_VALUE, Integer.MAX_VALUE}) {
                refuses(to, sort, 0, b);
                refuses(to, sort, 4, b);
            }
        }
        Check.sentence("Terms: b is of no account for the last three");
        for (char sort : new char[] {'e', 'c', 't'}) {
            for (int b : new int[] {-99, 99, -100, 100, Integer.MIN_VALUE, Integer.MAX_VALUE}) {
                accepts(to, sort, 0, b);
                refuses(to, sort, -1, b);
            }
        }
    }

    private static void numbersA(Adding to, char sort, int last, int b) {
        for (int a = 0; a <= last; a++) {
            accepts(to, sort, a, b);
        }
        for (int a : Check.outside(last + 1)) {
            boolean isInside = a >= 0 && a <= last;
            if (!isInside) {
                refuses(to, sort, a, b);
            }
        }
    }

    private static void addEntrySort() {
        Check.sentence("Promise 4: IllegalArgumentException if there is no such sort");
        sorts((x, sort, a, b) -> x.addEntry(0, 0, sort, a, b));
    }

    private static void addEntryNumbers() {
        numbers((x, sort, a, b) -> x.addEntry(0, 1, sort, a, b), "Promise 4: IllegalArgumentException");
        Check.sentence("Promise 4: a is a step of the plan, be it added later or the step itself");
        Check.answers("the step itself", 1, Engines::small, x -> x.addEntry(0, 1, 'c', 1, 0));
        Check.answers("a later step", 1, Engines::small, x -> x.addEntry(0, 0, 'c', 2, 0));
        Check.refused("a step of the other plan", Check.ARGUMENT, PlanBoundaryTest::threePlans,
            x -> x.addEntry(1, 0, 'c', 1, 0));
        Check.answers("the last of 8", 1, PlanBoundaryTest::eightSteps, x -> x.addEntry(0, 0, 'c', 7, 0));
        Check.refused("the ninth of 8", Check.ARGUMENT, PlanBoundaryTest::eightSteps,
            x -> x.addEntry(0, 0, 'c', 8, 0));
    }

    private static void addEntryUsed() {
        Check.sentence("Promise 4: IllegalStateException if the plan is used");
        for (Supplier<CasebookSteps> used : USED) {
            for (int step = 0; step < 3; step++) {
                int asked = step;
                Check.refused("step " + step, Check.STATE, used, x -> x.addEntry(0, asked, 'e', 9, 0));
            }
        }
        Check.answers("another plan is used", 1, () -> Engines.begun(threePlans(), 0, 1),
            x -> x.addEntry(1, 0, 'd', 0, 0));
        Check.refused("used, with 3 entry conditions", Check.STATE,
            () -> Engines.begun(entries(Engines.small(), 0, 3), 0, 1), x -> x.addEntry(0, 0, 'd', 0, 0));
    }

    private static CasebookSteps entries(CasebookSteps x, int step, int entries) {
        for (int i = 0; i < entries; i++) {
            x.addEntry(0, step, 'd', i, 1);
        }
        return x;
    }

    private static CasebookSteps exits(CasebookSteps x, int step, int exits) {
        for (int i = 0; i < exits; i++) {
            x.addExit(0, step, 'd', i, 1);
        }
        return x;
    }

    private static void addEntryFull() {
        Check.sentence("Promise 4: IllegalStateException if the step has 3 entry conditions");
        for (int step = 0; step < 3; step++) {
            int asked = step;
            for (int entries = 0; entries < 3; entries++) {
                int before = entries;
                Check.answers("entry after " + entries, entries + 1, () -> entries(Engines.small(), asked, before),
                    x -> x.addEntry(0, asked, 'd', 0, 1));
            }
            Supplier<CasebookSteps> full = () -> entries(Engines.small(), asked, 3);
            Check.refused("the fourth", Check.STATE, full, x -> x.addEntry(0, asked, 'e', 0, 0));
            Check.refused("the fourth, the same as the third", Check.STATE, full,
                x -> x.addEntry(0, asked, 'd', 2, 1));
            Check.refused("the fourth, of no sort", Check.ARGUMENT, full, x -> x.addEntry(0, asked, 'q', 0, 0));
            Check.refused("the fourth, of no datum", Check.ARGUMENT, full, x -> x.addEntry(0, asked, 'd', 4, 0));
            Check.answers("the first of another step", 1, full, x -> x.addEntry(0, (asked + 1) % 3, 'd', 0, 1));
        }
        Check.answers("exit conditions do not count", 1, () -> exits(Engines.small(), 0, 3),
            x -> x.addEntry(0, 0, 'd', 0, 0));
    }

    private static void addExitPlanOrStep() {
        Check.sentence("Promise 5: IndexOutOfBoundsException if there is no such plan or step");
        noSuchPlan(plan -> x -> x.addExit(plan, 0, 'd', 0, 0));
        noSuchPlan(plan -> x -> x.addExit(plan, 2, 'q', -1, 100));
        noSuchStep(0, 3, step -> x -> x.addExit(0, step, 'd', 0, 0));
        noSuchStep(0, 3, step -> x -> x.addExit(0, step, 'q', -1, 100));
        noSuchStep(1, 1, step -> x -> x.addExit(1, step, 'd', 0, 0));
        noSuchStep(2, 0, step -> x -> x.addExit(2, step, 'd', 0, 0));
        Check.answers("the last task", 1, PlanBoundaryTest::threePlans, x -> x.addExit(0, 1, 'd', 0, 0));
    }

    private static void addExitSort() {
        Check.sentence("Promise 5: IllegalArgumentException if there is no such sort");
        sorts((x, sort, a, b) -> x.addExit(0, 0, sort, a, b));
        Check.refused("to a milestone", Check.ARGUMENT, Engines::small, x -> x.addExit(0, 2, 'q', 0, 0));
    }

    private static void addExitNumbers() {
        numbers((x, sort, a, b) -> x.addExit(0, 1, sort, a, b), "Promise 5: IllegalArgumentException");
        Check.sentence("Promise 5: IllegalArgumentException is listed before UnsupportedOperationException");
        Check.refused("a datum too many", Check.ARGUMENT, Engines::small, x -> x.addExit(0, 2, 'd', 4, 0));
        Check.refused("an event too many", Check.ARGUMENT, Engines::small, x -> x.addExit(0, 2, 'e', 10, 0));
        Check.refused("a step too many", Check.ARGUMENT, Engines::small, x -> x.addExit(0, 2, 'c', 3, 0));
        Check.refused("a day too many", Check.ARGUMENT, Engines::small, x -> x.addExit(0, 2, 't', 1000, 0));
        Check.refused("a value too large", Check.ARGUMENT, Engines::small, x -> x.addExit(0, 2, 'l', 0, 100));
        Check.refused("a value too small", Check.ARGUMENT, Engines::small, x -> x.addExit(0, 2, 'd', 0, -100));
    }

    private static void addExitMilestone() {
        Check.sentence("Promise 5: UnsupportedOperationException if the step is a milestone");
        for (char sort : new char[] {'d', 'l', 'e', 'c', 't'}) {
            Check.refused("sort " + sort, Check.UNSUPPORTED, Engines::small, x -> x.addExit(0, 2, sort, 0, 0));
            for (Supplier<CasebookSteps> used : USED) {
                Check.refused("used, sort " + sort, Check.UNSUPPORTED, used, x -> x.addExit(0, 2, sort, 0, 0));
            }
        }
        Check.answers("a stage", 1, Engines::small, x -> x.addExit(0, 0, 'd', 0, 0));
        Check.answers("a task", 1, Engines::small, x -> x.addExit(0, 1, 'd', 0, 0));
    }

    private static void addExitUsed() {
        Check.sentence("Promise 5: IllegalStateException if the plan is used");
        for (Supplier<CasebookSteps> used : USED) {
            for (int step = 0; step < 2; step++) {
                int asked = step;
                Check.refused("step " + step, Check.STATE, used, x -> x.addExit(0, asked, 'e', 0, 0));
            }
        }
        Check.answers("another plan is used", 1, () -> Engines.begun(threePlans(), 0, 1),
            x -> x.addExit(1, 0, 'd', 0, 0));
        Check.refused("used, with 3 exit conditions", Check.STATE,
            () -> Engines.begun(exits(Engines.small(), 0, 3), 0, 1), x -> x.addExit(0, 0, 'd', 0, 0));
    }

    private static void addExitFull() {
        Check.sentence("Promise 5: IllegalStateException if the step has 3 exit conditions");
        for (int step = 0; step < 2; step++) {
            int asked = step;
            for (int exits = 0; exits < 3; exits++) {
                int before = exits;
                Check.answers("exit after " + exits, exits + 1, () -> exits(Engines.small(), asked, before),
                    x -> x.addExit(0, asked, 'd', 0, 1));
            }
            Supplier<CasebookSteps> full = () -> exits(Engines.small(), asked, 3);
            Check.refused("the fourth", Check.STATE, full, x -> x.addExit(0, asked, 'e', 0, 0));
            Check.refused("the fourth, of no sort", Check.ARGUMENT, full, x -> x.addExit(0, asked, 'q', 0, 0));
            Check.refused("the fourth, of no step", Check.ARGUMENT, full, x -> x.addExit(0, asked, 'c', 3, 0));
            Check.answers("the first of another step", 1, full, x -> x.addExit(0, 1 - asked, 'd', 0, 1));
        }
        Check.answers("entry conditions do not count", 1, () -> entries(Engines.small(), 0, 3),
            x -> x.addExit(0, 0, 'd', 0, 0));
    }

    private static void setRequiredPlanOrStep() {
        Check.sentence("Promise 6: IndexOutOfBoundsException if there is no such plan or step");
        noSuchPlan(plan -> x -> x.setRequired(plan, 0, false));
        noSuchPlan(plan -> x -> x.setRequired(plan, 1, false));
        noSuchStep(0, 3, step -> x -> x.setRequired(0, step, false));
        noSuchStep(1, 1, step -> x -> x.setRequired(1, step, false));
        noSuchStep(2, 0, step -> x -> x.setRequired(2, step, false));
    }

    private static void setRequiredKind() {
        Check.sentence("Promise 6: UnsupportedOperationException if the step is not a task");
        for (int step : new int[] {0, 2}) {
            Check.refused("step " + step, Check.UNSUPPORTED, Engines::small, x -> x.setRequired(0, step, false));
            Check.refused("step " + step, Check.UNSUPPORTED, Engines::small, x -> x.setRequired(0, step, true));
            for (Supplier<CasebookSteps> used : USED) {
                Check.refused("used, step " + step, Check.UNSUPPORTED, used, x -> x.setRequired(0, step, false));
            }
        }
        Check.answers("a task", true, Engines::small, x -> x.setRequired(0, 1, false));
    }

    /** A stage that would be completed at the next occasion if its idle task were not required. */
    private static CasebookSteps waitingForItsTask() {
        CasebookSteps x = Engines.of("st", -1, 0);
        x.addEntry(0, 1, 'd', 0, 1);
        return Engines.begun(x, 0, 1);
    }

    private static void setRequiredUsed() {
        Check.sentence("Promise 6: IllegalStateException if the plan is used");
        for (Supplier<CasebookSteps> used : USED) {
            Check.refused("to false", Check.STATE, used, x -> x.setRequired(0, 1, false));
            Check.refused("to what it is", Check.STATE, used, x -> x.setRequired(0, 1, true));
        }
        Check.refused("the stage waits for it", Check.STATE, PlanBoundaryTest::waitingForItsTask,
            x -> x.setRequired(0, 1, false));
        Check.answers("another plan is used", true, () -> Engines.begun(threePlans(), 0, 1),
            x -> x.setRequired(1, 0, false));
    }

    private static void setLimitPlanOrStep() {
        Check.sentence("Promise 7: IndexOutOfBoundsException if there is no such plan or step");
        noSuchPlan(plan -> x -> x.setLimit(plan, 0, 5));
        noSuchPlan(plan -> x -> x.setLimit(plan, 1, 0));
        noSuchStep(0, 3, step -> x -> x.setLimit(0, step, 5));
        noSuchStep(0, 3, step -> x -> x.setLimit(0, step, 100));
        noSuchStep(1, 1, step -> x -> x.setLimit(1, step, 5));
        noSuchStep(2, 0, step -> x -> x.setLimit(2, step, 5));
    }

    private static void setLimitDays() {
        Check.sentence("Promise 7: IllegalArgumentException if the limit is not between 1 and 99");
        for (int days = 1; days <= 99; days++) {
            int asked = days;
            Check.answers("limit " + days, 10, Engines::small, x -> x.setLimit(0, 1, asked));
            CasebookSteps y = Engines.small();
            y.setLimit(0, 1, days);
            Check.same("the limit before", y.setLimit(0, 1, 10), days);
        }
        for (int days : new int[] {0, 100, -1, -99, 101, 256 + 5, 65536 + 5, Integer.MIN_VALUE, Integer.MAX_VALUE}) {
            for (int step = 0; step < 3; step++) {
                int asked = step;
                Check.refused("limit " + days + " of " + step, Check.ARGUMENT, Engines::small,
                    x -> x.setLimit(0, asked, days));
                for (Supplier<CasebookSteps> used : USED) {
                    Check.refused("used, limit " + days, Check.ARGUMENT, used, x -> x.setLimit(0, asked, days));
                }
            }
        }
    }

    private static void setLimitKind() {
        Check.sentence("Promise 7: UnsupportedOperationException if the step is not a task");
        for (int step : new int[] {0, 2}) {
            for (int days : new int[] {1, 10, 99}) {
                Check.refused("step " + step, Check.UNSUPPORTED, Engines::small, x -> x.setLimit(0, step, days));
                for (Supplier<CasebookSteps> used : USED) {
                    Check.refused("used, step " + step, Check.UNSUPPORTED, used, x -> x.setLimit(0, step, days));
                }
            }
        }
    }

    private static void setLimitUsed() {
        Check.sentence("Promise 7: IllegalStateException if the plan is used");
        for (Supplier<CasebookSteps> used : USED) {
            for (int days : new int[] {1, 10, 99}) {
                Check.refused("limit " + days, Check.STATE, used, x -> x.setLimit(0, 1, days));
            }
        }
        Check.answers("another plan is used", 10, () -> Engines.begun(threePlans(), 0, 1),
            x -> x.setLimit(1, 0, 1));
    }

    private static void setAgainPlanOrStep() {
        Check.sentence("Promise 8: IndexOutOfBoundsException if there is no such plan or step");
        noSuchPlan(plan -> x -> x.setAgain(plan, 0, true));
        noSuchPlan(plan -> x -> x.setAgain(plan, 2, true));
        noSuchStep(0, 3, step -> x -> x.setAgain(0, step, true));
        noSuchStep(1, 1, step -> x -> x.setAgain(1, step, true));
        noSuchStep(2, 0, step -> x -> x.setAgain(2, step, true));
    }

    private static void setAgainKind() {
        Check.sentence("Promise 8: UnsupportedOperationException if the step is not a milestone");
        for (int step : new int[] {0, 1}) {
            Check.refused("step " + step, Check.UNSUPPORTED, Engines::small, x -> x.setAgain(0, step, true));
            Check.refused("step " + step, Check.UNSUPPORTED, Engines::small, x -> x.setAgain(0, step, false));
            for (Supplier<CasebookSteps> used : USED) {
                Check.refused("used, step " + step, Check.UNSUPPORTED, used, x -> x.setAgain(0, step, true));
            }
        }
        Check.answers("a milestone", false, Engines::small, x -> x.setAgain(0, 2, true));
    }

    /** A completed milestone that would fall back at the next occasion if it came again. */
    private static CasebookSteps withCompletedMilestone() {
        CasebookSteps x = Engines.of("m", -1);
        x.addEntry(0, 0, 'e', 5, 0);
        Engines.begun(x, 0, 1);
        x.event(0, 5);
        return x;
    }

    private static void setAgainUsed() {
        Check.sentence("Promise 8: IllegalStateException if the plan is used");
        for (Supplier<CasebookSteps> used : USED) {
            Check.refused("to true", Check.STATE, used, x -> x.setAgain(0, 2, true));
            Check.refused("to what it is", Check.STATE, used, x -> x.setAgain(0, 2, false));
        }
        Check.refused("the milestone is completed", Check.STATE, PlanBoundaryTest::withCompletedMilestone,
            x -> x.setAgain(0, 0, true));
        Check.answers("another plan is used", false,
            () -> Engines.begun(Engines.withPlan(Engines.small(), "m", -1), 0, 1), x -> x.setAgain(1, 0, true));
    }

    private static void stepsPlan() {
        Check.sentence("Promise 9: IndexOutOfBoundsException if there is no such plan");
        noSuchPlan(plan -> x -> x.steps(plan));
        Check.answers("a plan without steps", 0, PlanBoundaryTest::threePlans, x -> x.steps(2));
        Check.answers("a full plan", 8, PlanBoundaryTest::eightSteps, x -> x.steps(0));
    }

    private static void isUsedPlan() {
        Check.sentence("Promise 10: IndexOutOfBoundsException if there is no such plan");
        noSuchPlan(plan -> x -> x.isUsed(plan));
        Check.answers("the last plan", false, PlanBoundaryTest::threePlans, x -> x.isUsed(2));
    }
}
