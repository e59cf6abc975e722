import java.util.function.Function;
import java.util.function.Supplier;

/** Each sentence under "What it is" and "Terms" that names a boundary case, with a test of its own. */
public final class TermsBoundaryTest {
    public static void main(String[] args) {
        calls();
        plans();
        steps();
        parents();
        taskAtFirst();
        milestoneAtFirst();
        usedPlans();
        refusalsDoNotUse();
        conditionCounts();
        conditionD();
        conditionL();
        conditionE();
        conditionC();
        conditionT();
        noAccountOfB();
        cases();
        caseAtFirst();
        stepsAtFirst();
        roundsUntilNothingChanges();
        roundsAtMost();
        risingNumbers();
        firstRule();
        secondRule();
        thirdRule();
        fourthRule();
        oneRuleAStep();
        endsGoDown();
        eventIsOver();
        dayPasses();
        lateBeyondTheLimit();
        movedSteps();
        movedPlanCounts();
        moveEndsNothing();
        refusalsChangeNothing();
        firstListed();
        Check.end("TermsBoundaryTest");
    }

    private static CasebookSteps oneTask() {
        return Engines.of("t", -1);
    }

    private static void calls() {
        Check.sentence("What it is: an object is used for at most 512 calls");
        CasebookSteps x = Engines.of("tt", -1, -1);
        x.addEntry(0, 1, 't', 999, 0);
        x.begin(0);
        for (int call = 6; call <= 506; call++) {
            x.pass(10);
        }
        Check.same("days", x.days(0), 5010);
        Check.same("happened", x.happened(0), 5011);
        Check.same("clock", x.clock(0, 0), 5010);
        Check.same("clockByReplay", x.clockByReplay(0, 0), 5010);
        Check.same("clockByReplay of the second", x.clockByReplay(0, 1), 4011);
        Check.same("the 512th call", x.stateByReplay(0, 1), 'a');
        CasebookSteps y = Engines.begun(Engines.of("tt", -1, -1), 0, 1);
        for (int call = 5; call <= 508; call++) {
            y.set(0, call % 4, call % 100);
        }
        y.complete(0, 1);
        y.pass(1);
        Check.same("stateByReplay of what came last", y.stateByReplay(0, 1), 'c');
        Check.same("clockByReplay of what came last", y.clockByReplay(0, 0), 1);
    }

    private static void plans() {
        Check.sentence("Plans: at most 3 plans have the numbers 0 to n - 1 in the order in which they were made");
        CasebookSteps x = new CasebookSteps();
        for (int plan = 0; plan < 3; plan++) {
            Check.same("addPlan", x.addPlan(), plan);
            for (int step = 0; step <= plan; step++) {
                x.addStep(plan, 't', -1);
            }
        }
        for (int plan = 0; plan < 3; plan++) {
            Check.same("steps of plan " + plan, x.steps(plan), plan + 1);
        }
        Check.same("one more", Check.outcome(x::addPlan), "IllegalStateException");
        Check.same("steps of plan 2 after it", x.steps(2), 3);
    }

    private static void steps() {
        Check.sentence("Plans: at most 8 steps, numbered from 0 in the order in which they were added");
        CasebookSteps x = new CasebookSteps();
        x.addPlan();
        String kinds = "mtsmtsmt";
        for (int step = 0; step < 8; step++) {
            Check.same("addStep", x.addStep(0, kinds.charAt(step), -1), step);
        }
        Check.same("one more", Check.outcome(() -> x.addStep(0, 's', -1)), "IllegalStateException");
        x.begin(0);
        Check.same("the kinds", Check.states(x, 0), "caacaaca");
        Check.same("the tasks", x.daysLeft(0), 11);
        x.pass(1);
        for (int step = 0; step < 8; step++) {
            Check.same("clock of " + step, x.clock(0, step), kinds.charAt(step) == 't' ? 1 : 0);
        }
    }

    private static void parents() {
        Check.sentence("Plans: it lies in a stage of the plan that was added before it, its parent, or in none");
        CasebookSteps x = new CasebookSteps();
        x.addPlan();
        for (int step = 0; step < 7; step++) {
            Check.same("not in itself", Check.outcome(() -> x.addStep(0, 's', x.steps(0))),
                "IllegalArgumentException");
            Check.same("in the one before", x.addStep(0, 's', step - 1), step);
        }
        Check.same("the innermost", x.addStep(0, 't', 6), 7);
        x.addExit(0, 0, 'e', 0, 0);
        x.begin(0);
        Check.same("each in the one before", Check.states(x, 0), "aaaaaaaa");
        Check.same("rounds", x.rounds(0), 1);
        Check.same("all end with the outermost", x.event(0, 0), 8);
        x.begin(0);
        Check.same("all are completed with the innermost", x.complete(1, 7), 7);
        Check.same("rounds of that, one a stage", x.rounds(1), 7);
    }

    private static void taskAtFirst() {
        Check.sentence("Plans: a task is required, as at first, and has a limit in days, 10 at first");
        Check.answers("required", true, TermsBoundaryTest::oneTask, x -> x.setRequired(0, 0, false));
        Check.answers("limit", 10, TermsBoundaryTest::oneTask, x -> x.setLimit(0, 0, 5));
        CasebookSteps x = Engines.begun(oneTask(), 0, 1);
        Check.same("after 10 days", x.pass(10), 0);
        Check.same("after 11 days", x.pass(1), 1);
        CasebookSteps stage = Engines.of("stt", -1, 0, 0);
        stage.addEntry(0, 1, 'd', 0, 1);
        stage.begin(0);
        stage.complete(0, 2);
        Check.same("a stage waits for it", Check.states(stage, 0), "aic");
    }

    private static void milestoneAtFirst() {
        Check.sentence("Plans: a milestone comes once, as at first, or again");
        Check.answers("at first", false, () -> Engines.of("m", -1), x -> x.setAgain(0, 0, true));
        for (boolean again : new boolean[] {false, true}) {
            CasebookSteps x = Engines.of("m", -1);
            x.addEntry(0, 0, 'd', 0, 1);
            x.setAgain(0, 0, true);
            x.setAgain(0, 0, again);
            x.begin(0);
            for (int value : new int[] {1, 0, 1}) {
                x.set(0, 0, value);
            }
            Check.same("again: " + again, x.count(0, 0), again ? 2 : 1);
        }
    }

    private static void usedPlans() {
        Check.sentence("Plans: a plan is used when a case has begun with it or was moved to it");
        CasebookSteps x = Engines.withPlan(Engines.withPlan(oneTask(), "t", -1), "t", -1);
        for (int plan = 0; plan < 3; plan++) {
            Check.same("not yet, " + plan, x.isUsed(plan), false);
        }
        x.begin(1);
        Check.same("begun with it", x.isUsed(1), true);
        x.move(0, 2);
        Check.same("moved to it", x.isUsed(2), true);
        Check.same("the one that was left", x.isUsed(1), true);
        Check.same("the third", x.isUsed(0), false);
        x.complete(0, 0);
        Check.same("when the case is over", x.isUsed(2), true);
    }

    private static void refusalsDoNotUse() {
        Check.sentence("Plans: used only when a case has begun with it or was moved to it, and not by a refused call");
        CasebookSteps x = Engines.withPlan(Engines.begun(Engines.of("tt", -1, -1), 0, 4), "t", -1);
        Check.same("begin", Check.outcome(() -> x.begin(1)), "IllegalStateException");
        Check.same("isUsed after begin", x.isUsed(1), false);
        Check.same("move", Check.outcome(() -> x.move(0, 1)), "IllegalArgumentException");
        Check.same("isUsed after move", x.isUsed(1), false);
        Check.same("move of no case", Check.outcome(() -> x.move(4, 1)), "IndexOutOfBoundsException");
        Check.same("isUsed after move of no case", x.isUsed(1), false);
        Check.same("it can be changed", x.addStep(1, 't', -1), 1);
    }

    private static void conditionCounts() {
        Check.sentence("Conditions: at most 3 entry conditions, and a stage or a task also at most 3 exit conditions");
        for (char kind : new char[] {'s', 't', 'm'}) {
            CasebookSteps x = Engines.of("" + kind, -1);
            for (int i = 1; i <= 4; i++) {
                Check.same(kind + ", entry " + i, Check.outcome(() -> x.addEntry(0, 0, 'e', 1, 0)),
                    i <= 3 ? (Object) i : "IllegalStateException");
                Check.same(kind + ", exit " + i, Check.outcome(() -> x.addExit(0, 0, 'e', 2, 0)),
                    kind == 'm' ? "UnsupportedOperationException" : i <= 3 ? (Object) i : "IllegalStateException");
            }
        }
        for (int index = 0; index < 3; index++) {
            CasebookSteps x = Engines.of("t", -1);
            for (int i = 0; i < 3; i++) {
                x.addEntry(0, 0, 'e', i == index ? 1 : 0, 0);
                x.addExit(0, 0, 'e', i == index ? 2 : 0, 0);
            }
            x.begin(0);
            x.event(0, 1);
            Check.same("entry condition " + index + " alone holds", x.state(0, 0), 'a');
            x.event(0, 2);
            Check.same("exit condition " + index + " alone holds", x.state(0, 0), 'x');
        }
    }

    /** Whether the condition holds for a datum of this value, as holds tells and as a milestone shows. */
    private static void datumCondition(char sort, int a, int b, int value, boolean due) {
        CasebookSteps x = Engines.of("mm", -1, -1);
        x.setAgain(0, 0, true);
        x.addEntry(0, 0, sort, a, b);
        x.begin(0);
        x.set(0, a, value);
        String what = sort + " " + a + " " + b + " for " + value;
        Check.same(what, x.holds(0, 0, true, 0), due);
        Check.same(what + ", the milestone", x.state(0, 0), due ? 'c' : 'i');
    }

    private static void conditionD() {
        Check.sentence("Conditions: 'd' holds if the datum a is b or more");
        for (int a = 0; a <= 3; a++) {
            for (int b : new int[] {-99, -98, -1, 0, 1, 98, 99}) {
                for (int value = Math.max(-99, b - 2); value <= Math.min(99, b + 2); value++) {
                    datumCondition('d', a, b, value, value >= b);
                }
            }
        }
    }

    private static void conditionL() {
        Check.sentence("Conditions: 'l' holds if the datum a is less than b");
        for (int a = 0; a <= 3; a++) {
            for (int b : new int[] {-99, -98, -1, 0, 1, 98, 99}) {
                for (int value = Math.max(-99, b - 2); value <= Math.min(99, b + 2); value++) {
                    datumCondition('l', a, b, value, value < b);
                }
            }
        }
    }

    private static void conditionE() {
        Check.sentence("Conditions: 'e' holds if the present event is a");
        for (int a : new int[] {0, 1, 8, 9}) {
            CasebookSteps x = oneTask();
            x.addEntry(0, 0, 'e', a, 0);
            x.begin(0);
            Check.same("none has come", x.holds(0, 0, true, 0), false);
            for (int event = 0; event <= 9; event++) {
                boolean comes = x.state(0, 0) == 'i' && event == a;
                Check.same(event + " for " + a, x.event(0, event), comes ? 1 : 0);
            }
            Check.same("it came", x.state(0, 0), 'a');
        }
    }

    private static void conditionC() {
        Check.sentence("Conditions: 'c' holds if the step a is completed");
        CasebookSteps x = Engines.of("mttt", -1, -1, -1, -1);
        x.addEntry(0, 0, 'c', 1, 0);
        x.addEntry(0, 0, 'c', 2, 0);
        x.addEntry(0, 0, 'c', 3, 0);
        x.addEntry(0, 1, 'd', 0, 1);
        x.addExit(0, 3, 't', 0, 0);
        x.begin(0);
        Check.same("states", Check.states(x, 0), "iiax");
        for (int index = 0; index < 3; index++) {
            Check.same("idle, active, ended: " + index, x.holds(0, 0, true, index), false);
        }
        x.complete(0, 2);
        Check.same("completed", x.holds(0, 0, true, 1), true);
        Check.same("states", Check.states(x, 0), "cicx");
        CasebookSteps last = Engines.of("mmmmmmmt", -1, -1, -1, -1, -1, -1, -1, -1);
        last.addEntry(0, 0, 'c', 7, 0);
        last.addEntry(0, 6, 'c', 0, 0);
        last.begin(0);
        Check.same("the first and the last step", last.complete(0, 7), 2);
        CasebookSteps itself = Engines.of("m", -1);
        itself.addEntry(0, 0, 'c', 0, 0);
        itself.begin(0);
        Check.same("a step that waits for itself", itself.state(0, 0), 'i');
    }

    private static void conditionT() {
        Check.sentence("Conditions: 't' holds if at least a days have passed since the case began");
        CasebookSteps zero = Engines.of("m", -1);
        zero.addEntry(0, 0, 't', 0, 0);
        zero.begin(0);
        Check.same("0 days", zero.state(0, 0), 'c');
        CasebookSteps x = Engines.of("mm", -1, -1);
        x.addEntry(0, 0, 't', 1, 0);
        x.addEntry(0, 1, 't', 999, 0);
        x.begin(0);
        Check.same("1 day, at first", x.state(0, 0), 'i');
        x.setWaiting(0, true);
        x.pass(1);
        Check.same("1 day, after it, though it waits", x.state(0, 0), 'c');
        for (int i = 0; i < 99; i++) {
            x.pass(10);
        }
        x.pass(7);
        Check.same("998 days", x.days(0), 998);
        Check.same("999 days, the day before", x.state(0, 1), 'i');
        Check.same("holds the day before", x.holds(0, 1, true, 0), false);
        x.pass(1);
        Check.same("999 days", x.state(0, 1), 'c');
        x.pass(1);
        Check.same("holds a day later", x.holds(0, 1, true, 0), true);
        x.begin(0);
        Check.same("since the case began", Check.states(x, 1), "ii");
    }

    private static void noAccountOfB() {
        Check.sentence("Conditions: b is of no account for the last three");
        for (int b : new int[] {-1, 0, 1, 9, 99, Integer.MIN_VALUE, Integer.MAX_VALUE}) {
            CasebookSteps x = Engines.of("mmm", -1, -1, -1);
            x.addEntry(0, 0, 'e', 5, b);
            x.addEntry(0, 1, 'c', 0, b);
            x.addEntry(0, 2, 't', 2, b);
            x.begin(0);
            Check.same("none holds", Check.states(x, 0), "iii");
            x.event(0, 5);
            Check.same("e and c", Check.states(x, 0), "cci");
            x.pass(1);
            Check.same("t, a day before", Check.states(x, 0), "cci");
            x.pass(1);
            Check.same("t", Check.states(x, 0), "ccc");
        }
    }

    private static void cases() {
        Check.sentence("Cases: at most 4 cases have the numbers 0 to n - 1 in the order in which they began");
        CasebookSteps x = Engines.withPlan(oneTask(), "tt", -1, -1);
        for (int number = 0; number < 4; number++) {
            Check.same("begin", x.begin(number % 2), number);
            x.pass(1);
        }
        Check.same("one more", Check.outcome(() -> x.begin(0)), "IllegalStateException");
        for (int number = 0; number < 4; number++) {
            Check.same("days of " + number, x.days(number), 4 - number);
            Check.same("planOf " + number, x.planOf(number), number % 2);
        }
    }

    private static void caseAtFirst() {
        Check.sentence("Cases: the data 0 to 3, each 0 at first, and waits or does not wait, as at first");
        CasebookSteps x = Engines.begun(oneTask(), 0, 1);
        x.setWaiting(0, true);
        for (int datum = 0; datum <= 3; datum++) {
            Check.same("datum " + datum, x.datum(0, datum), 0);
            x.set(0, datum, datum % 2 == 0 ? 99 : -99);
        }
        x.begin(0);
        for (int datum = 0; datum <= 3; datum++) {
            Check.same("datum " + datum + " of the second", x.datum(1, datum), 0);
            Check.same("datum " + datum + " of the first", x.datum(0, datum), datum % 2 == 0 ? 99 : -99);
        }
        Check.same("the first waits", x.isWaiting(0), true);
        Check.same("the second does not", x.isWaiting(1), false);
    }

    private static void stepsAtFirst() {
        Check.sentence("Cases: each step is idle, as at first, its clock 0 at first, its count 0 at first");
        CasebookSteps x = Engines.of("stm", -1, -1, -1);
        for (int step = 0; step < 3; step++) {
            x.addEntry(0, step, 'd', 0, 1);
        }
        x.begin(0);
        x.pass(10);
        for (int step = 0; step < 3; step++) {
            Check.same("state", x.state(0, step), 'i');
            Check.same("clock", x.clock(0, step), 0);
            Check.same("count", x.count(0, step), 0);
        }
        Check.same("rounds", x.rounds(0), 0);
        Check.same("daysWorked", x.daysWorked(), 0L);
    }

    private static void roundsUntilNothingChanges() {
        Check.sentence("Rounds: rounds follow, until one changes nothing");
        CasebookSteps x = Engines.of("mmmm", -1, -1, -1, -1);
        for (int i = 0; i < 3; i++) {
            x.addEntry(0, i, 'c', i + 1, 0);
        }
        x.addEntry(0, 3, 'd', 0, 1);
        x.begin(0);
        Check.same("the first round changes nothing", x.rounds(0), 0);
        x.set(0, 0, 1);
        Check.same("a round for each", x.rounds(0), 4);
        Check.same("states", Check.states(x, 0), "cccc");
        x.set(0, 0, 0);
        Check.same("nothing more", x.rounds(0), 0);
    }

    private static void roundsAtMost() {
        Check.sentence("Rounds: but at most 20");
        CasebookSteps x = Engines.ring(1);
        Check.same("before", Check.states(x, 0), "iiicaa");
        x.move(0, 1);
        String[] turns = {"iciiaa", "iiciaa", "ciicaa"};
        int[] counts = {6, 13, 20};
        for (int turn = 0; turn < 3; turn++) {
            Check.same("rounds", x.rounds(0), 20);
            Check.same("states after so many times 20", Check.states(x, 0), turns[turn]);
            Check.same("count", x.count(0, 0), counts[turn]);
            for (int step = 0; step < 4; step++) {
                Check.same("stateByReplay", x.stateByReplay(0, step), turns[turn].charAt(step));
            }
            x.pass(1);
        }
        Check.same("80 rounds", x.count(0, 0), 26);
        x.pass(10);
        Check.same("twenty rounds on each day", x.count(0, 0), 93);
        Check.same("rounds", x.rounds(0), 20);
    }

    private static void risingNumbers() {
        Check.sentence("Rounds: the steps are looked at by rising numbers, each one as all is then");
        CasebookSteps rising = Engines.of("mmmmmmmm", -1, -1, -1, -1, -1, -1, -1, -1);
        CasebookSteps falling = Engines.of("mmmmmmmm", -1, -1, -1, -1, -1, -1, -1, -1);
        for (int i = 0; i < 7; i++) {
            rising.addEntry(0, i + 1, 'c', i, 0);
            falling.addEntry(0, i, 'c', i + 1, 0);
        }
        rising.begin(0);
        falling.begin(0);
        Check.same("each sees the one before it", rising.rounds(0), 1);
        Check.same("each sees the one after it a round later", falling.rounds(0), 8);
        Check.same("rising", Check.states(rising, 0), "cccccccc");
        Check.same("falling", Check.states(falling, 0), "cccccccc");
    }

    private static void firstRule() {
        Check.sentence("Rounds: first, an active step one of whose exit conditions holds becomes ended");
        for (char kind : new char[] {'s', 't'}) {
            CasebookSteps x = Engines.of("" + kind, -1);
            x.addEntry(0, 0, 'd', 0, 1);
            x.addExit(0, 0, 'd', 1, 1);
            x.begin(0);
            x.set(0, 1, 1);
            Check.same("an idle step stays", x.state(0, 0), 'i');
            x.set(0, 0, 1);
            Check.same("entered, and ended in the round after", x.state(0, 0), 'x');
            Check.same("rounds", x.rounds(0), 2);
            Check.same("count", x.count(0, 0), 1);
            x.set(0, 1, 0);
            Check.same("an ended step stays", x.state(0, 0), 'x');
        }
        CasebookSteps task = oneTask();
        task.addExit(0, 0, 'e', 0, 0);
        task.begin(0);
        task.complete(0, 0);
        Check.same("event", task.event(0, 0), 0);
        Check.same("a completed step stays", task.state(0, 0), 'c');
        CasebookSteps both = Engines.of("sm", -1, 0);
        both.addExit(0, 0, 'c', 1, 0);
        both.begin(0);
        Check.same("it comes before the third", Check.states(both, 0), "xc");
    }

    private static void secondRule() {
        Check.sentence("Rounds: second, an idle step that has no entry conditions or one that holds is entered");
        for (char kind : new char[] {'s', 't', 'm'}) {
            char entered = kind == 'm' ? 'c' : 'a';
            CasebookSteps x = Engines.of("" + kind, -1);
            Check.answers("no entry conditions, kind " + kind, entered,
                () -> Engines.begun(Engines.of("" + kind, -1), 0, 1), y -> y.state(0, 0));
            x.addEntry(0, 0, 'd', 0, 1);
            x.addEntry(0, 0, 'd', 1, 1);
            x.begin(0);
            Check.same("none holds", x.state(0, 0), 'i');
            x.set(0, 1, 1);
            Check.same("the last one holds", x.state(0, 0), entered);
            Check.same("count", x.count(0, 0), 1);
            x.set(0, 0, 1);
            Check.same("entered once", x.count(0, 0), 1);
        }
        Check.sentence("Rounds: second, and has no parent or an active one");
        CasebookSteps x = Engines.of("smt", -1, 0, 0);
        x.addEntry(0, 0, 'd', 0, 1);
        x.begin(0);
        Check.same("an idle parent", Check.states(x, 0), "iii");
        x.set(0, 0, 1);
        Check.same("an active parent, in the same round", Check.states(x, 0), "aca");
        Check.same("rounds", x.rounds(0), 1);
        CasebookSteps y = Engines.of("sm", -1, 0);
        y.setAgain(0, 1, true);
        y.addEntry(0, 1, 'd', 0, 1);
        y.begin(0);
        y.set(0, 0, 1);
        y.set(0, 0, 0);
        y.set(0, 0, 1);
        Check.same("a completed parent", Check.states(y, 0), "ci");
    }

    /** A stage with one child that is never entered. */
    private static String stageWithIdle(char kind, boolean isRequired) {
        CasebookSteps x = Engines.of("s" + kind, -1, 0);
        if (kind == 't') {
            x.setRequired(0, 1, isRequired);
        }
        x.addEntry(0, 1, 'd', 0, 1);
        x.begin(0);
        return Check.states(x, 0);
    }

    private static void thirdRule() {
        Check.sentence("Rounds: third, an active stage that has children");
        CasebookSteps none = Engines.begun(Engines.of("s", -1), 0, 1);
        none.pass(10);
        Check.same("a stage without children stays active", none.state(0, 0), 'a');
        Check.answers("a milestone is enough", "cc",
            () -> Engines.begun(Engines.of("sm", -1, 0), 0, 1), x -> Check.states(x, 0));

        Check.sentence("Rounds: third, none of them active");
        CasebookSteps active = Engines.of("stt", -1, 0, 0);
        active.setRequired(0, 1, false);
        active.setRequired(0, 2, false);
        active.begin(0);
        active.complete(0, 1);
        Check.same("one is active, though not required", Check.states(active, 0), "aca");
        active.complete(0, 2);
        Check.same("none is", Check.states(active, 0), "ccc");
        CasebookSteps grandchild = Engines.of("ssts", -1, 0, 1, 0);
        grandchild.addExit(0, 3, 't', 0, 0);
        grandchild.begin(0);
        Check.same("an active child stage", Check.states(grandchild, 0), "aaax");
        grandchild.complete(0, 2);
        Check.same("children and theirs", Check.states(grandchild, 0), "cccx");

        Check.sentence("Rounds: third, if each child is completed, ended, or a task that is not required");
        Check.same("an idle task that is required", stageWithIdle('t', true), "ai");
        Check.same("an idle task that is not required", stageWithIdle('t', false), "cx");
        Check.same("an idle milestone", stageWithIdle('m', true), "ai");
        Check.same("an idle stage", stageWithIdle('s', true), "ai");
        CasebookSteps ended = Engines.of("st", -1, 0);
        ended.addExit(0, 1, 't', 0, 0);
        ended.begin(0);
        Check.same("an ended task that is required", Check.states(ended, 0), "cx");
        for (int left = 1; left <= 7; left++) {
            CasebookSteps x = Engines.of("sttttttt", -1, 0, 0, 0, 0, 0, 0, 0);
            x.begin(0);
            for (int step = 1; step <= 7; step++) {
                if (step != left) {
                    Check.same("all but one", x.complete(0, step), 0);
                }
            }
            Check.same("the last one", x.complete(0, left), 1);
        }
    }

    private static void fourthRule() {
        Check.sentence("Rounds: fourth, a completed milestone that comes again and has entry conditions");
        CasebookSteps bare = Engines.of("m", -1);
        bare.setAgain(0, 0, true);
        bare.begin(0);
        bare.pass(2);
        Check.same("one without entry conditions stays", bare.state(0, 0), 'c');
        Check.same("count", bare.count(0, 0), 1);

        Check.sentence("Rounds: fourth, none of which holds, becomes idle");
        CasebookSteps x = Engines.of("mm", -1, -1);
        for (int step = 0; step < 2; step++) {
            for (int datum = 0; datum < 3; datum++) {
                x.addEntry(0, step, 'd', datum, 1);
            }
        }
        x.setAgain(0, 0, true);
        x.begin(0);
        for (int datum = 0; datum < 3; datum++) {
            x.set(0, datum, 1);
        }
        x.set(0, 0, 0);
        x.set(0, 1, 0);
        Check.same("the last one holds", Check.states(x, 0), "cc");
        x.set(0, 2, 0);
        Check.same("none holds; one comes again and one does not", Check.states(x, 0), "ic");
        x.set(0, 1, 1);
        Check.same("entered again", x.count(0, 0), 2);
        Check.same("entered once", x.count(0, 1), 1);
    }

    private static void oneRuleAStep() {
        Check.sentence("Rounds: the first one of these that applies is done");
        CasebookSteps task = oneTask();
        task.addExit(0, 0, 't', 0, 0);
        task.begin(0);
        Check.same("entered in one round, ended in another", task.rounds(0), 2);
        CasebookSteps again = Engines.of("m", -1);
        again.setAgain(0, 0, true);
        again.addEntry(0, 0, 'e', 0, 0);
        again.begin(0);
        again.event(0, 0);
        Check.same("while the event is there", again.rounds(0), 1);
        again.event(0, 1);
        Check.same("it falls back", again.rounds(0), 1);
        CasebookSteps stage = Engines.of("sm", -1, 0);
        stage.begin(0);
        Check.same("a stage is completed a round after its milestone", stage.rounds(0), 2);
    }

    private static void endsGoDown() {
        Check.sentence("Rounds: whenever a stage becomes completed or ended, each idle or active child becomes ended");
        CasebookSteps x = Engines.of("sttms", -1, 0, 0, 0, 0);
        x.addEntry(0, 1, 'd', 0, 1);
        x.addExit(0, 0, 'e', 0, 0);
        x.begin(0);
        Check.same("before", Check.states(x, 0), "aiaca");
        Check.same("event", x.event(0, 0), 4);
        Check.same("a completed child stays", Check.states(x, 0), "xxxcx");
        Check.same("at once", x.rounds(0), 1);
        CasebookSteps done = Engines.of("stmt", -1, 0, 0, -1);
        done.setRequired(0, 1, false);
        done.addEntry(0, 1, 'd', 0, 1);
        done.begin(0);
        Check.same("completed, with an idle task in it", Check.states(done, 0), "cxca");

        Check.sentence("Rounds: and so on for the children of these");
        CasebookSteps deep = Engines.of("sssssstt", -1, 0, 1, 2, 3, 4, 5, -1);
        deep.addEntry(0, 4, 'd', 0, 1);
        deep.addExit(0, 0, 'e', 0, 0);
        deep.begin(0);
        Check.same("before", Check.states(deep, 0), "aaaaiiia");
        Check.same("event", deep.event(0, 0), 7);
        Check.same("all below, and nothing beside", Check.states(deep, 0), "xxxxxxxa");
        Check.same("at once", deep.rounds(0), 1);
        Check.same("count of what was never entered", deep.count(0, 6), 0);
    }

    private static void eventIsOver() {
        Check.sentence("What happens: the present event until its rounds are over, and then there is none");
        CasebookSteps x = Engines.of("mmmm", -1, -1, -1, -1);
        x.addEntry(0, 0, 'c', 1, 0);
        x.addEntry(0, 1, 'c', 2, 0);
        x.addEntry(0, 2, 'e', 7, 0);
        x.addEntry(0, 3, 'e', 7, 0);
        x.setAgain(0, 3, true);
        x.begin(0);
        Check.same("before", x.holds(0, 2, true, 0), false);
        x.event(0, 7);
        Check.same("present in each of the rounds", Check.states(x, 0), "cccc");
        Check.same("rounds", x.rounds(0), 3);
        Check.same("then there is none", x.holds(0, 3, true, 0), false);
        Check.same("refused", Check.outcome(() -> x.event(0, 10)), "IllegalArgumentException");
        Check.same("a refused event lets nothing happen", x.state(0, 3), 'c');
        x.pass(1);
        Check.same("at the next occasion", x.state(0, 3), 'i');
        CasebookSteps two = Engines.of("m", -1);
        two.addEntry(0, 0, 'e', 7, 0);
        Engines.begun(two, 0, 2);
        two.event(0, 7);
        two.set(1, 0, 0);
        Check.same("an event of another case", two.state(1, 0), 'i');
    }

    private static void dayPasses() {
        Check.sentence("What happens: first the days increase by 1, whether it waits or not, "
            + "and the clock of each active task increases by 1");
        CasebookSteps x = Engines.of("tttsm", -1, -1, -1, -1, -1);
        x.addEntry(0, 1, 't', 1, 0);
        x.addExit(0, 2, 't', 1, 0);
        x.begin(0);
        x.pass(1);
        Check.same("states", Check.states(x, 0), "aaxac");
        Check.same("an active task", x.clock(0, 0), 1);
        Check.same("a task that is entered on that day", x.clock(0, 1), 0);
        Check.same("a task that ends on that day", x.clock(0, 2), 1);
        Check.same("an active stage", x.clock(0, 3), 0);
        Check.same("a completed milestone", x.clock(0, 4), 0);
        x.complete(0, 0);
        x.pass(1);
        Check.same("a completed task", x.clock(0, 0), 1);
        Check.same("the day after", x.clock(0, 1), 1);
        Check.same("an ended task", x.clock(0, 2), 1);

        Check.sentence("What happens: unless the case waits");
        x.setWaiting(0, true);
        x.pass(3);
        Check.same("the clock stands", x.clock(0, 1), 1);
        Check.same("the days go on", x.days(0), 5);
        x.setWaiting(0, false);
        x.pass(1);
        Check.same("it goes on", x.clock(0, 1), 2);
        CasebookSteps waiting = oneTask();
        waiting.addEntry(0, 0, 't', 2, 0);
        waiting.begin(0);
        waiting.setWaiting(0, true);
        waiting.pass(2);
        Check.same("the rounds follow while it waits", waiting.state(0, 0), 'a');
    }

    private static void lateBeyondTheLimit() {
        Check.sentence("What happens: an active task is late if its clock is greater than its limit");
        for (int limit : new int[] {1, 2, 9, 10, 11, 98, 99}) {
            CasebookSteps x = oneTask();
            x.setLimit(0, 0, limit);
            x.begin(0);
            for (int day = 1; day <= limit + 1; day++) {
                Check.same("limit " + limit + ", day " + day, x.pass(1), day > limit ? 1 : 0);
                Check.same("isLate", x.isLate(0, 0), day > limit);
            }
        }
    }

    private static void movedSteps() {
        Check.sentence("Moving: each step keeps its state, its clock and its count; "
            + "those that it did not have are idle");
        CasebookSteps x = Engines.of("tttm", -1, -1, -1, -1);
        x.addEntry(0, 0, 'd', 0, 1);
        x.addExit(0, 2, 'd', 1, 1);
        Engines.withPlan(x, "tttmtsmt", -1, -1, -1, -1, -1, -1, -1, -1);
        for (int step = 0; step < 8; step++) {
            x.addEntry(1, step, 'd', 3, 99);
        }
        x.begin(0);
        x.pass(4);
        x.set(0, 1, 1);
        x.pass(2);
        Check.same("before", Check.states(x, 0), "iaxc");
        x.move(0, 1);
        Check.same("after", Check.states(x, 0), "iaxciiii");
        int[] clocks = {0, 6, 4, 0, 0, 0, 0, 0};
        int[] counts = {0, 1, 1, 1, 0, 0, 0, 0};
        for (int step = 0; step < 8; step++) {
            Check.same("clock of " + step, x.clock(0, step), clocks[step]);
            Check.same("count of " + step, x.count(0, step), counts[step]);
            Check.same("stateByReplay of " + step, x.stateByReplay(0, step), "iaxciiii".charAt(step));
            Check.same("clockByReplay of " + step, x.clockByReplay(0, step), clocks[step]);
        }
        Check.same("rounds", x.rounds(0), 0);
        Check.same("the data stay", x.datum(0, 1), 1);
        Check.same("the days stay", x.days(0), 6);
    }

    /** What comes of a case with one task, begun and moved to the second plan of the engine. */
    private static void moved(String what, Object due, Supplier<CasebookSteps> made,
            Function<CasebookSteps, Object> call) {
        Check.answers(what, due, () -> {
            CasebookSteps x = Engines.begun(made.get(), 0, 1);
            x.pass(3);
            x.move(0, 1);
            return x;
        }, call);
    }

    private static void movedPlanCounts() {
        Check.sentence("Moving: then the conditions, parents, kinds and limits of the new plan count");
        moved("exit conditions", 'x', () -> {
            CasebookSteps x = Engines.withPlan(oneTask(), "t", -1);
            x.addExit(1, 0, 't', 3, 0);
            return x;
        }, x -> x.state(0, 0));
        moved("exit conditions of the old plan", 'a', () -> {
            CasebookSteps x = Engines.withPlan(oneTask(), "t", -1);
            x.addExit(0, 0, 't', 4, 0);
            return x;
        }, x -> {
            x.pass(1);
            return x.state(0, 0);
        });
        moved("entry conditions", "a", () -> {
            CasebookSteps x = oneTask();
            x.addEntry(0, 0, 'd', 0, 1);
            return Engines.withPlan(x, "t", -1);
        }, x -> Check.states(x, 0));
        moved("parents", "ai", () -> {
            CasebookSteps x = Engines.withPlan(Engines.of("tt", -1, -1), "st", -1, 0);
            x.addEntry(0, 1, 'd', 0, 1);
            x.addEntry(1, 1, 'd', 0, 1);
            return x;
        }, x -> Check.states(x, 0));
        moved("a task that is a stage now", "UnsupportedOperationException",
            () -> Engines.withPlan(oneTask(), "s", -1), x -> x.complete(0, 0));
        moved("a stage that is a task now", 0,
            () -> Engines.withPlan(Engines.of("s", -1), "t", -1), x -> x.complete(0, 0));
        moved("the clock of a task that is a stage now", 3, () -> Engines.withPlan(oneTask(), "s", -1), x -> {
            x.pass(5);
            return x.clock(0, 0);
        });
        for (int limit : new int[] {2, 3, 4}) {
            moved("isLate with the limit " + limit, limit < 3, () -> {
                CasebookSteps x = Engines.withPlan(oneTask(), "t", -1);
                x.setLimit(1, 0, limit);
                return x;
            }, x -> x.isLate(0, 0));
        }
        moved("daysLeft", 97, () -> {
            CasebookSteps x = Engines.withPlan(oneTask(), "t", -1);
            x.setLimit(1, 0, 99);
            return x;
        }, x -> x.daysLeft(0));
    }

    private static void moveEndsNothing() {
        Check.sentence("Rounds: whenever a stage becomes completed or ended, and at no other time, as by a move");
        CasebookSteps x = Engines.of("t", -1);
        Engines.withPlan(x, "stm", -1, 0, 0);
        x.begin(0);
        x.complete(0, 0);
        x.move(0, 1);
        Check.same("idle in what is a completed stage now", Check.states(x, 0), "cii");
        x.pass(1);
        Check.same("and a day later", Check.states(x, 0), "cii");
        CasebookSteps y = Engines.of("tt", -1, -1);
        y.addExit(0, 0, 't', 0, 0);
        Engines.withPlan(y, "st", -1, 0);
        y.begin(0);
        y.move(0, 1);
        Check.same("active in what is an ended stage now", Check.states(y, 0), "xa");
        Check.same("its clock", y.pass(1), 0);
        Check.same("runs", y.clock(0, 1), 1);
    }

    private static void refusalsChangeNothing() {
        Check.sentence("Exceptions: a method that throws an exception changes nothing");
        Supplier<CasebookSteps> made = () -> {
            CasebookSteps x = Engines.of("stmm", -1, 0, -1, -1);
            x.addEntry(0, 2, 'e', 0, 0);
            x.addEntry(0, 3, 'd', 0, 1);
            x.setAgain(0, 3, true);
            Engines.withPlan(x, "t", -1);
            Engines.begun(x, 0, 2);
            x.set(0, 0, 1);
            x.setWaiting(1, true);
            x.pass(3);
            return x;
        };
        Check.refused("addStep", Check.STATE, made, x -> x.addStep(0, 't', 0));
        Check.refused("addEntry", Check.STATE, made, x -> x.addEntry(0, 1, 'd', 0, 99));
        Check.refused("addExit", Check.STATE, made, x -> x.addExit(0, 1, 't', 0, 0));
        Check.refused("setRequired", Check.STATE, made, x -> x.setRequired(0, 1, false));
        Check.refused("setLimit", Check.STATE, made, x -> x.setLimit(0, 1, 1));
        Check.refused("setAgain", Check.STATE, made, x -> x.setAgain(0, 2, true));
        Check.refused("set", Check.ARGUMENT, made, x -> x.set(0, 0, 100));
        Check.refused("event", Check.ARGUMENT, made, x -> x.event(0, 10));
        Check.refused("complete", Check.UNSUPPORTED, made, x -> x.complete(0, 0));
        Check.refused("move", Check.ARGUMENT, made, x -> x.move(0, 1));
        Check.refused("pass", Check.ARGUMENT, made, x -> x.pass(0));
        Check.refused("pass", Check.ARGUMENT, made, x -> x.pass(11));
        Check.refused("setWaiting", Check.INDEX, made, x -> x.setWaiting(2, true));
        Check.refused("holds", Check.NO_ELEMENT, made, x -> x.holds(0, 2, true, 1));
        Check.refused("stateByReplay", Check.INDEX, made, x -> x.stateByReplay(0, 4));
        Check.refused("clockByReplay", Check.INDEX, made, x -> x.clockByReplay(2, 0));
    }

    /** The plan 0 is full and used, its step 0 is a stage with all its conditions, and there are 4 cases. */
    private static CasebookSteps full() {
        CasebookSteps x = Engines.of("stmttttt", -1, 0, -1, -1, -1, -1, -1, -1);
        for (int i = 0; i < 3; i++) {
            x.addEntry(0, 0, 'd', i, -99);
            x.addExit(0, 0, 'd', i, 99);
        }
        Engines.withPlan(x, "");
        return Engines.begun(x, 0, 4);
    }

    /** All that could be wrong with the call is wrong; its place in the list is that of the first. */
    private static void throwsFirst(String what, Class<?> due, Function<CasebookSteps, Object> call) {
        Check.answers(what, due.getSimpleName(), TermsBoundaryTest::full, call);
    }

    private static void firstListed() {
        Check.sentence("Exceptions: if several exceptions apply, the one that is listed first is thrown");
        throwsFirst("addStep, plan", Check.INDEX, x -> x.addStep(2, 'q', 1));
        throwsFirst("addStep, kind", Check.ARGUMENT, x -> x.addStep(0, 'q', -1));
        throwsFirst("addStep, parent", Check.ARGUMENT, x -> x.addStep(0, 't', 1));
        throwsFirst("addStep, used and full", Check.STATE, x -> x.addStep(0, 't', 0));
        throwsFirst("addEntry, plan", Check.INDEX, x -> x.addEntry(2, 0, 'q', -1, 100));
        throwsFirst("addEntry, step", Check.INDEX, x -> x.addEntry(0, 8, 'q', -1, 100));
        throwsFirst("addEntry, sort", Check.ARGUMENT, x -> x.addEntry(0, 0, 'q', 0, 0));
        throwsFirst("addEntry, a", Check.ARGUMENT, x -> x.addEntry(0, 0, 'c', 8, 0));
        throwsFirst("addEntry, b", Check.ARGUMENT, x -> x.addEntry(0, 0, 'l', 0, 100));
        throwsFirst("addEntry, used and full", Check.STATE, x -> x.addEntry(0, 0, 'd', 0, 0));
        throwsFirst("addExit, plan", Check.INDEX, x -> x.addExit(2, 2, 'q', -1, 100));
        throwsFirst("addExit, step", Check.INDEX, x -> x.addExit(0, 8, 'q', -1, 100));
        throwsFirst("addExit, sort", Check.ARGUMENT, x -> x.addExit(0, 2, 'q', 0, 0));
        throwsFirst("addExit, a", Check.ARGUMENT, x -> x.addExit(0, 2, 'e', 10, 0));
        throwsFirst("addExit, b", Check.ARGUMENT, x -> x.addExit(0, 2, 'd', 0, -100));
        throwsFirst("addExit, milestone", Check.UNSUPPORTED, x -> x.addExit(0, 2, 'd', 0, 0));
        throwsFirst("addExit, used and full", Check.STATE, x -> x.addExit(0, 0, 'd', 0, 0));
        throwsFirst("setRequired, plan", Check.INDEX, x -> x.setRequired(2, 0, true));
        throwsFirst("setRequired, step", Check.INDEX, x -> x.setRequired(0, 8, true));
        throwsFirst("setRequired, no task", Check.UNSUPPORTED, x -> x.setRequired(0, 0, true));
        throwsFirst("setRequired, used", Check.STATE, x -> x.setRequired(0, 1, true));
        throwsFirst("setLimit, plan", Check.INDEX, x -> x.setLimit(2, 0, 0));
        throwsFirst("setLimit, step", Check.INDEX, x -> x.setLimit(0, 8, 0));
        throwsFirst("setLimit, days", Check.ARGUMENT, x -> x.setLimit(0, 0, 0));
        throwsFirst("setLimit, no task", Check.UNSUPPORTED, x -> x.setLimit(0, 0, 1));
        throwsFirst("setLimit, used", Check.STATE, x -> x.setLimit(0, 1, 1));
        throwsFirst("setAgain, plan", Check.INDEX, x -> x.setAgain(2, 0, true));
        throwsFirst("setAgain, step", Check.INDEX, x -> x.setAgain(0, 8, true));
        throwsFirst("setAgain, no milestone", Check.UNSUPPORTED, x -> x.setAgain(0, 1, true));
        throwsFirst("setAgain, used", Check.STATE, x -> x.setAgain(0, 2, true));
        throwsFirst("begin, plan", Check.INDEX, x -> x.begin(2));
        throwsFirst("begin, no steps and 4 cases", Check.STATE, x -> x.begin(1));
        throwsFirst("set, case", Check.INDEX, x -> x.set(4, 4, 100));
        throwsFirst("set, datum and value", Check.ARGUMENT, x -> x.set(0, 4, 100));
        throwsFirst("event, case", Check.INDEX, x -> x.event(4, 10));
        throwsFirst("complete, case", Check.INDEX, x -> x.complete(4, 2));
        throwsFirst("complete, step", Check.INDEX, x -> x.complete(0, 8));
        throwsFirst("complete, a milestone that is not active", Check.UNSUPPORTED, x -> x.complete(0, 2));
        throwsFirst("move, case", Check.INDEX, x -> x.move(4, 1));
        throwsFirst("move, plan", Check.INDEX, x -> x.move(0, 2));
        throwsFirst("holds, case", Check.INDEX, x -> x.holds(4, 0, true, 3));
        throwsFirst("holds, step", Check.INDEX, x -> x.holds(0, 8, false, 3));
        throwsFirst("datum, case", Check.INDEX, x -> x.datum(4, 4));
    }
}
