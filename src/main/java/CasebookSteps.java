import java.util.NoSuchElementException;

/**
 * A case handling engine: plans of stages, tasks and milestones, and the cases that go by them.
 * What happens to a case is both carried out at once and written into a journal, so that the state of
 * a case can be found a second time by letting the journal happen once more.
 */
public final class CasebookSteps {
    private static final int MAX_PLANS = 3;
    private static final int MAX_STEPS = 8;
    private static final int MAX_CONDITIONS = 3;
    private static final int MAX_CASES = 4;
    private static final int MAX_ROUNDS = 20;
    private static final int DATA = 4;
    private static final int EVENTS = 10;
    private static final int MAX_VALUE = 99;
    private static final int MAX_DAYS_PASSED = 999;
    private static final int MAX_LIMIT = 99;
    private static final int FIRST_LIMIT = 10;
    private static final int MAX_DAYS_AT_ONCE = 10;

    // One call writes at most one row, and an object is promised for no more calls than this.
    private static final int JOURNAL_ROWS = 512;

    private static final int NONE = -1;

    private static final char STAGE = 's';
    private static final char TASK = 't';
    private static final char MILESTONE = 'm';

    private static final char IDLE = 'i';
    private static final char ACTIVE = 'a';
    private static final char COMPLETED = 'c';
    private static final char ENDED = 'x';

    private static final char DATUM_AT_LEAST = 'd';
    private static final char DATUM_LESS = 'l';
    private static final char EVENT_PRESENT = 'e';
    private static final char STEP_COMPLETED = 'c';
    private static final char DAYS_PASSED = 't';

    private static final int BEGINS = 0;
    private static final int DATUM_IS_SET = 1;
    private static final int EVENT_COMES = 2;
    private static final int TASK_IS_COMPLETED = 3;
    private static final int WAITS = 4;
    private static final int GOES_ON = 5;
    private static final int IS_MOVED = 6;
    private static final int DAY_PASSES = 7;

    private static final int EVERY_CASE = -1;

    private final Plan[] plans;
    private int planCount;
    private final Case[] begun;
    private int caseCount;
    private final Journal journal;
    private final Case replayed;

    public CasebookSteps() {
        plans = new Plan[MAX_PLANS];
        planCount = 0;
        begun = new Case[MAX_CASES];
        caseCount = 0;
        journal = new Journal();
        replayed = new Case(new Plan(NONE));
    }

    // ---- plans ----

    public int addPlan() throws IllegalStateException {
        if (planCount < 0 || planCount >= MAX_PLANS) {
            throw new IllegalStateException("there are 3 plans");
        }
        int number = planCount;
        plans[number] = new Plan(number);
        planCount = number + 1;
        return number;
    }

    public int addStep(int plan, char kind, int parent)
            throws IndexOutOfBoundsException, IllegalArgumentException, IllegalStateException {
        Plan changed = existingPlan(plan);
        if (kind != STAGE && kind != TASK && kind != MILESTONE) {
            throw new IllegalArgumentException("no such kind");
        }
        if (parent != NONE && !changed.isStage(parent)) {
            throw new IllegalArgumentException("the parent is no stage of the plan");
        }
        refuseUsed(changed);
        if (changed.size >= MAX_STEPS) {
            throw new IllegalStateException("the plan has 8 steps");
        }
        return changed.append(new Step(kind, parent));
    }

    public int addEntry(int plan, int step, char sort, int a, int b)
            throws IndexOutOfBoundsException, IllegalArgumentException, IllegalStateException {
        Plan changed = existingPlan(plan);
        Step entered = existingStep(changed, step);
        refuseWrongCondition(changed, sort, a, b);
        refuseUsed(changed);
        refuseFull(entered.entries);
        return entered.entries.append(new Condition(sort, a, b));
    }

    public int addExit(int plan, int step, char sort, int a, int b)
            throws IndexOutOfBoundsException, IllegalArgumentException, UnsupportedOperationException,
            IllegalStateException {
        Plan changed = existingPlan(plan);
        Step left = existingStep(changed, step);
        refuseWrongCondition(changed, sort, a, b);
        if (left.kind == MILESTONE) {
            throw new UnsupportedOperationException("a milestone has no exit conditions");
        }
        refuseUsed(changed);
        refuseFull(left.exits);
        return left.exits.append(new Condition(sort, a, b));
    }

    public boolean setRequired(int plan, int step, boolean isRequired)
            throws IndexOutOfBoundsException, UnsupportedOperationException, IllegalStateException {
        Plan changed = existingPlan(plan);
        Step task = existingStep(changed, step);
        refuseOtherThanTask(task);
        refuseUsed(changed);
        boolean before = task.required;
        task.required = isRequired;
        return before;
    }

    public int setLimit(int plan, int step, int days)
            throws IndexOutOfBoundsException, IllegalArgumentException, UnsupportedOperationException,
            IllegalStateException {
        Plan changed = existingPlan(plan);
        Step task = existingStep(changed, step);
        if (days < 1 || days > MAX_LIMIT) {
            throw new IllegalArgumentException("the limit is not between 1 and 99");
        }
        refuseOtherThanTask(task);
        refuseUsed(changed);
        int before = task.limit;
        task.limit = days;
        return before;
    }

    public boolean setAgain(int plan, int step, boolean comesAgain)
            throws IndexOutOfBoundsException, UnsupportedOperationException, IllegalStateException {
        Plan changed = existingPlan(plan);
        Step milestone = existingStep(changed, step);
        if (milestone.kind != MILESTONE) {
            throw new UnsupportedOperationException("the step is not a milestone");
        }
        refuseUsed(changed);
        boolean before = milestone.again;
        milestone.again = comesAgain;
        return before;
    }

    public int steps(int plan) throws IndexOutOfBoundsException {
        return existingPlan(plan).size;
    }

    public boolean isUsed(int plan) throws IndexOutOfBoundsException {
        return existingPlan(plan).used;
    }

    // ---- cases ----

    public int begin(int plan) throws IndexOutOfBoundsException, IllegalStateException {
        Plan first = existingPlan(plan);
        if (first.size == 0) {
            throw new IllegalStateException("the plan has no steps");
        }
        if (caseCount < 0 || caseCount >= MAX_CASES) {
            throw new IllegalStateException("there are 4 cases");
        }
        int number = caseCount;
        Case fresh = new Case(first);
        begun[number] = fresh;
        caseCount = number + 1;
        first.used = true;
        noteAndDo(number, fresh, BEGINS, plan, 0);
        return number;
    }

    public int set(int number, int datum, int value)
            throws IndexOutOfBoundsException, IllegalArgumentException {
        Case changed = existingCase(number);
        if (!isDatum(datum)) {
            throw new IllegalArgumentException("no such datum");
        }
        if (!isValue(value)) {
            throw new IllegalArgumentException("the value is not between -99 and 99");
        }
        int before = changed.valueOf(datum);
        noteAndDo(number, changed, DATUM_IS_SET, datum, value);
        return before;
    }

    public int event(int number, int event) throws IndexOutOfBoundsException, IllegalArgumentException {
        Case changed = existingCase(number);
        if (!isEvent(event)) {
            throw new IllegalArgumentException("no such event");
        }
        changed.rememberStates();
        noteAndDo(number, changed, EVENT_COMES, event, 0);
        return changed.changedStepsBut(NONE);
    }

    public int complete(int number, int step)
            throws IndexOutOfBoundsException, UnsupportedOperationException, IllegalStateException {
        Case changed = existingCase(number);
        refuseOtherThanTask(existingStep(changed.plan, step));
        if (changed.stateOf(step) != ACTIVE) {
            throw new IllegalStateException("the task is not active");
        }
        changed.rememberStates();
        noteAndDo(number, changed, TASK_IS_COMPLETED, step, 0);
        return changed.changedStepsBut(step);
    }

    public boolean setWaiting(int number, boolean waits) throws IndexOutOfBoundsException {
        Case changed = existingCase(number);
        boolean before = changed.waiting;
        noteAndDo(number, changed, waits ? WAITS : GOES_ON, 0, 0);
        return before;
    }

    public int move(int number, int plan) throws IndexOutOfBoundsException, IllegalArgumentException {
        Case moved = existingCase(number);
        Plan next = existingPlan(plan);
        if (next.size < moved.plan.size) {
            throw new IllegalArgumentException("the plan has fewer steps than that of the case");
        }
        int before = moved.plan.number;
        next.used = true;
        noteAndDo(number, moved, IS_MOVED, plan, 0);
        return before;
    }

    public int pass(int days) throws IllegalArgumentException {
        if (days < 1 || days > MAX_DAYS_AT_ONCE) {
            throw new IllegalArgumentException("the number of days is not between 1 and 10");
        }
        journal.append(EVERY_CASE, DAY_PASSES, days, 0);
        for (int day = 0; day < days; day++) {
            for (int i = 0; i < caseCount; i++) {
                letHappen(caseAt(i), DAY_PASSES, 0, 0);
            }
        }
        return lateTasksOfAll();
    }

    // ---- states ----

    public char state(int number, int step) throws IndexOutOfBoundsException {
        return caseWithStep(number, step).stateOf(step);
    }

    public char stateByReplay(int number, int step) throws IndexOutOfBoundsException {
        caseWithStep(number, step);
        replay(number);
        return replayed.stateOf(step);
    }

    public int clock(int number, int step) throws IndexOutOfBoundsException {
        return caseWithStep(number, step).clockOf(step);
    }

    public int clockByReplay(int number, int step) throws IndexOutOfBoundsException {
        caseWithStep(number, step);
        replay(number);
        return replayed.clockOf(step);
    }

    public int count(int number, int step) throws IndexOutOfBoundsException {
        return caseWithStep(number, step).countOf(step);
    }

    public boolean isLate(int number, int step) throws IndexOutOfBoundsException {
        Case asked = caseWithStep(number, step);
        return asked.isActiveTask(step) && asked.daysUntilLate(step) <= 0;
    }

    public int daysLeft(int number) throws IndexOutOfBoundsException, NoSuchElementException {
        int fewest = existingCase(number).fewestDaysUntilLate();
        if (fewest == NONE) {
            throw new NoSuchElementException("no active task that is not late");
        }
        return fewest;
    }

    public boolean holds(int number, int step, boolean isEntry, int index)
            throws IndexOutOfBoundsException, NoSuchElementException {
        Case asked = existingCase(number);
        Step owner = existingStep(asked.plan, step);
        Conditions conditions = isEntry ? owner.entries : owner.exits;
        Condition condition = conditions.at(index);
        if (condition == null) {
            throw new NoSuchElementException("the step has no such condition");
        }
        return asked.isMet(condition);
    }

    public int active(int number) throws IndexOutOfBoundsException {
        return existingCase(number).stepsInState(ACTIVE);
    }

    public boolean isOver(int number) throws IndexOutOfBoundsException {
        return existingCase(number).isAtItsEnd();
    }

    public int rounds(int number) throws IndexOutOfBoundsException {
        return existingCase(number).lastRounds;
    }

    public int datum(int number, int datum) throws IndexOutOfBoundsException, IllegalArgumentException {
        Case asked = existingCase(number);
        if (!isDatum(datum)) {
            throw new IllegalArgumentException("no such datum");
        }
        return asked.valueOf(datum);
    }

    public int days(int number) throws IndexOutOfBoundsException {
        return existingCase(number).age;
    }

    public int planOf(int number) throws IndexOutOfBoundsException {
        return existingCase(number).plan.number;
    }

    public boolean isWaiting(int number) throws IndexOutOfBoundsException {
        return existingCase(number).waiting;
    }

    public int happened(int number) throws IndexOutOfBoundsException {
        return existingCase(number).things;
    }

    public int cases() {
        return caseCount;
    }

    public long daysWorked() {
        long sum = 0;
        for (int i = 0; i < caseCount; i++) {
            Case counted = caseAt(i);
            if (counted != null) {
                sum += counted.sumOfClocks();
            }
        }
        return sum;
    }

    public float doneShare(int number) throws IndexOutOfBoundsException {
        Case asked = existingCase(number);
        int all = asked.plan.size;
        if (all <= 0) {
            return 0.0f;
        }
        return (float) asked.stepsInState(COMPLETED) / (float) all;
    }

    // ---- what is asked of arguments ----

    private static boolean isDatum(int number) {
        return number >= 0 && number < DATA;
    }

    private static boolean isEvent(int number) {
        return number >= 0 && number < EVENTS;
    }

    private static boolean isValue(int value) {
        return value >= -MAX_VALUE && value <= MAX_VALUE;
    }

    private static boolean isCondition(Plan plan, char sort, int a, int b) {
        if (sort == DATUM_AT_LEAST || sort == DATUM_LESS) {
            return isDatum(a) && isValue(b);
        }
        if (sort == EVENT_PRESENT) {
            return isEvent(a);
        }
        if (sort == STEP_COMPLETED) {
            return plan.stepAt(a) != null;
        }
        return sort == DAYS_PASSED && a >= 0 && a <= MAX_DAYS_PASSED;
    }

    private static void refuseWrongCondition(Plan plan, char sort, int a, int b) {
        if (!isCondition(plan, sort, a, b)) {
            throw new IllegalArgumentException("no such condition");
        }
    }

    private static void refuseFull(Conditions conditions) {
        if (conditions.size >= MAX_CONDITIONS) {
            throw new IllegalStateException("the step has 3 such conditions");
        }
    }

    private static void refuseUsed(Plan plan) {
        if (plan.used) {
            throw new IllegalStateException("the plan is used");
        }
    }

    private static void refuseOtherThanTask(Step step) {
        if (step.kind != TASK) {
            throw new UnsupportedOperationException("the step is not a task");
        }
    }

    private Plan planAt(int number) {
        return number < 0 || number >= planCount || number >= MAX_PLANS ? null : plans[number];
    }

    private Case caseAt(int number) {
        return number < 0 || number >= caseCount || number >= MAX_CASES ? null : begun[number];
    }

    private Plan existingPlan(int number) {
        Plan plan = planAt(number);
        if (plan == null) {
            throw new IndexOutOfBoundsException("no such plan");
        }
        return plan;
    }

    private Case existingCase(int number) {
        Case found = caseAt(number);
        if (found == null) {
            throw new IndexOutOfBoundsException("no such case");
        }
        return found;
    }

    private static Step existingStep(Plan plan, int number) {
        Step step = plan.stepAt(number);
        if (step == null) {
            throw new IndexOutOfBoundsException("no such step");
        }
        return step;
    }

    private Case caseWithStep(int number, int step) {
        Case found = existingCase(number);
        existingStep(found.plan, step);
        return found;
    }

    // ---- what happens ----

    private void noteAndDo(int number, Case changed, int what, int x, int y) {
        journal.append(number, what, x, y);
        letHappen(changed, what, x, y);
    }

    /** Calls and replay both come through here, so that what happens once more is the very same. */
    private void letHappen(Case changed, int what, int x, int y) {
        if (changed == null) {
            return;
        }
        switch (what) {
            case BEGINS:
                changed.beginAnew(planAt(x));
                break;
            case DATUM_IS_SET:
                changed.putValue(x, y);
                break;
            case EVENT_COMES:
                changed.present = x;
                break;
            case TASK_IS_COMPLETED:
                changed.finish(x, COMPLETED);
                break;
            case WAITS:
                changed.waiting = true;
                break;
            case GOES_ON:
                changed.waiting = false;
                break;
            case IS_MOVED:
                changed.goBy(planAt(x));
                break;
            default:
                changed.growOlder();
                break;
        }
        changed.things++;
        changed.runRounds();
        changed.present = NONE;
    }

    private void replay(int number) {
        boolean hasBegun = false;
        for (int row = 0; row < journal.size && row < JOURNAL_ROWS; row++) {
            int who = journal.who[row];
            int what = journal.what[row];
            if (who == number && what == BEGINS) {
                hasBegun = true;
            }
            if (!hasBegun || who != number && who != EVERY_CASE) {
                continue;
            }
            int times = what == DAY_PASSES ? journal.x[row] : 1;
            for (int i = 0; i < times; i++) {
                letHappen(replayed, what, journal.x[row], journal.y[row]);
            }
        }
    }

    private int lateTasksOfAll() {
        int late = 0;
        for (int i = 0; i < caseCount; i++) {
            Case counted = caseAt(i);
            if (counted != null) {
                late += counted.lateTasks();
            }
        }
        return late;
    }

    /** A condition for the beginning or the end of a step. */
    private static final class Condition {
        final char sort;
        final int a;
        final int b;

        Condition(char sort, int a, int b) {
            this.sort = sort;
            this.a = a;
            this.b = b;
        }
    }

    /** The entry conditions, or the exit conditions, of a step. */
    private static final class Conditions {
        final Condition[] rows = new Condition[MAX_CONDITIONS];
        int size = 0;

        int append(Condition condition) {
            if (size >= 0 && size < MAX_CONDITIONS) {
                rows[size] = condition;
                size++;
            }
            return size;
        }

        /** The condition with this index, or null if there is none. */
        Condition at(int index) {
            return index < 0 || index >= size || index >= MAX_CONDITIONS ? null : rows[index];
        }
    }

    /** A stage, a task or a milestone of a plan. */
    private static final class Step {
        final char kind;
        final int parent;
        final Conditions entries = new Conditions();
        final Conditions exits = new Conditions();
        boolean required = true;
        int limit = FIRST_LIMIT;
        boolean again = false;

        Step(char kind, int parent) {
            this.kind = kind;
            this.parent = parent;
        }
    }

    /** The steps of a plan; once it is used it stays as it is, and so a replay finds it as it was. */
    private static final class Plan {
        final int number;
        final Step[] rows = new Step[MAX_STEPS];
        int size = 0;
        boolean used = false;

        Plan(int number) {
            this.number = number;
        }

        int append(Step step) {
            int index = size;
            if (index >= 0 && index < MAX_STEPS) {
                rows[index] = step;
                size = index + 1;
            }
            return index;
        }

        /** The step with this number, or null if there is none. */
        Step stepAt(int index) {
            return index < 0 || index >= size || index >= MAX_STEPS ? null : rows[index];
        }

        boolean isStage(int index) {
            Step step = stepAt(index);
            return step != null && step.kind == STAGE;
        }
    }

    /** What happened, to which case, in the order in which it happened; a row of days stands for all cases. */
    private static final class Journal {
        final int[] who = new int[JOURNAL_ROWS];
        final int[] what = new int[JOURNAL_ROWS];
        final int[] x = new int[JOURNAL_ROWS];
        final int[] y = new int[JOURNAL_ROWS];
        int size = 0;

        void append(int caseNumber, int thing, int first, int second) {
            // A full journal means more calls than are promised; what replays answer then is free.
            if (size < 0 || size >= JOURNAL_ROWS) {
                return;
            }
            who[size] = caseNumber;
            what[size] = thing;
            x[size] = first;
            y[size] = second;
            size++;
        }
    }

    /** A case: its plan, and how far each step of the plan has come. */
    private static final class Case {
        Plan plan;
        final int[] data = new int[DATA];
        final char[] states = new char[MAX_STEPS];
        final char[] statesBefore = new char[MAX_STEPS];
        final int[] clocks = new int[MAX_STEPS];
        final int[] counts = new int[MAX_STEPS];
        int age = 0;
        boolean waiting = false;
        int present = NONE;
        int lastRounds = 0;
        int things = 0;

        Case(Plan plan) {
            this.plan = plan;
        }

        void beginAnew(Plan first) {
            goBy(first);
            for (int i = 0; i < DATA; i++) {
                data[i] = 0;
            }
            for (int i = 0; i < MAX_STEPS; i++) {
                states[i] = IDLE;
                clocks[i] = 0;
                counts[i] = 0;
            }
            age = 0;
            waiting = false;
            present = NONE;
            things = 0;
        }

        /** The rows have room for the largest plan, and a step that is new to the case is still idle in them. */
        void goBy(Plan next) {
            if (next != null) {
                plan = next;
            }
        }

        void putValue(int datum, int value) {
            if (isDatum(datum)) {
                data[datum] = value;
            }
        }

        void growOlder() {
            age++;
            if (waiting) {
                return;
            }
            for (int i = 0; i < MAX_STEPS; i++) {
                if (isActiveTask(i)) {
                    clocks[i]++;
                }
            }
        }

        void runRounds() {
            lastRounds = 0;
            for (int round = 1; round <= MAX_ROUNDS; round++) {
                boolean changes = false;
                for (int i = 0; i < plan.size; i++) {
                    if (applyRule(i)) {
                        changes = true;
                    }
                }
                if (!changes) {
                    return;
                }
                lastRounds = round;
            }
        }

        /** Does the first rule that applies to the step; the states alone keep the other rules apart. */
        boolean applyRule(int index) {
            Step step = plan.stepAt(index);
            if (step == null) {
                return false;
            }
            char state = stateOf(index);
            if (state == ACTIVE && anyMet(step.exits)) {
                finish(index, ENDED);
                return true;
            }
            if (state == IDLE && isParentActive(step) && (step.entries.size == 0 || anyMet(step.entries))) {
                enter(index, step.kind);
                return true;
            }
            if (state == ACTIVE && step.kind == STAGE && areChildrenDone(index)) {
                finish(index, COMPLETED);
                return true;
            }
            if (state == COMPLETED && step.kind == MILESTONE && step.again
                    && step.entries.size > 0 && !anyMet(step.entries)) {
                putState(index, IDLE);
                return true;
            }
            return false;
        }

        boolean isParentActive(Step step) {
            return step.parent == NONE || stateOf(step.parent) == ACTIVE;
        }

        void enter(int index, char kind) {
            putState(index, kind == MILESTONE ? COMPLETED : ACTIVE);
            if (index >= 0 && index < MAX_STEPS) {
                counts[index]++;
            }
        }

        /** A step's parent has a smaller number, so one way through rising numbers reaches all below it. */
        void finish(int index, char state) {
            putState(index, state);
            int finished = 1 << index;
            for (int i = index + 1; i < plan.size; i++) {
                Step step = plan.stepAt(i);
                if (step == null || step.parent == NONE || (finished >> step.parent & 1) == 0) {
                    continue;
                }
                if (stateOf(i) == IDLE || stateOf(i) == ACTIVE) {
                    putState(i, ENDED);
                    finished |= 1 << i;
                }
            }
        }

        boolean areChildrenDone(int stage) {
            boolean hasChildren = false;
            for (int i = 0; i < plan.size; i++) {
                Step step = plan.stepAt(i);
                if (step == null || step.parent != stage) {
                    continue;
                }
                hasChildren = true;
                char state = stateOf(i);
                boolean canBeLeftOut = state == IDLE && step.kind == TASK && !step.required;
                if (state != COMPLETED && state != ENDED && !canBeLeftOut) {
                    return false;
                }
            }
            return hasChildren;
        }

        boolean anyMet(Conditions conditions) {
            for (int i = 0; i < conditions.size; i++) {
                Condition condition = conditions.at(i);
                if (condition != null && isMet(condition)) {
                    return true;
                }
            }
            return false;
        }

        boolean isMet(Condition condition) {
            char sort = condition.sort;
            int a = condition.a;
            if (sort == DATUM_AT_LEAST) {
                return a >= 0 && a < DATA && data[a] >= condition.b;
            }
            if (sort == DATUM_LESS) {
                return a >= 0 && a < DATA && data[a] < condition.b;
            }
            if (sort == EVENT_PRESENT) {
                return present == a;
            }
            if (sort == STEP_COMPLETED) {
                return a >= 0 && a < MAX_STEPS && states[a] == COMPLETED;
            }
            return sort == DAYS_PASSED && age >= a;
        }

        int valueOf(int datum) {
            return isDatum(datum) ? data[datum] : 0;
        }

        char stateOf(int index) {
            return index < 0 || index >= MAX_STEPS ? IDLE : states[index];
        }

        void putState(int index, char state) {
            if (index >= 0 && index < MAX_STEPS) {
                states[index] = state;
            }
        }

        int clockOf(int index) {
            return index < 0 || index >= MAX_STEPS ? 0 : clocks[index];
        }

        int countOf(int index) {
            return index < 0 || index >= MAX_STEPS ? 0 : counts[index];
        }

        boolean isActiveTask(int index) {
            Step step = plan.stepAt(index);
            return step != null && step.kind == TASK && stateOf(index) == ACTIVE;
        }

        /** On how many days the clock must still run until the task is late; 0 or less if it is late. */
        int daysUntilLate(int index) {
            Step step = plan.stepAt(index);
            return step == null ? 0 : step.limit - clockOf(index) + 1;
        }

        /** The fewest days of an active task that is not late, or NONE if there is no such task. */
        int fewestDaysUntilLate() {
            int fewest = NONE;
            for (int i = 0; i < plan.size; i++) {
                int days = daysUntilLate(i);
                if (isActiveTask(i) && days > 0 && (fewest == NONE || days < fewest)) {
                    fewest = days;
                }
            }
            return fewest;
        }

        int lateTasks() {
            int late = 0;
            for (int i = 0; i < plan.size; i++) {
                if (isActiveTask(i) && daysUntilLate(i) <= 0) {
                    late++;
                }
            }
            return late;
        }

        void rememberStates() {
            for (int i = 0; i < MAX_STEPS; i++) {
                statesBefore[i] = states[i];
            }
        }

        int changedStepsBut(int leftOut) {
            int changed = 0;
            for (int i = 0; i < MAX_STEPS; i++) {
                if (i != leftOut && states[i] != statesBefore[i]) {
                    changed++;
                }
            }
            return changed;
        }

        int stepsInState(char state) {
            int found = 0;
            for (int i = 0; i < plan.size; i++) {
                if (stateOf(i) == state) {
                    found++;
                }
            }
            return found;
        }

        boolean isAtItsEnd() {
            for (int i = 0; i < plan.size; i++) {
                Step step = plan.stepAt(i);
                if (step != null && step.parent == NONE && stateOf(i) != COMPLETED && stateOf(i) != ENDED) {
                    return false;
                }
            }
            return true;
        }

        long sumOfClocks() {
            long sum = 0;
            for (int i = 0; i < plan.size; i++) {
                sum += clockOf(i);
            }
            return sum;
        }
    }
}
